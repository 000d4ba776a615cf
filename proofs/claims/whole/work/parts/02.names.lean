/-! ===== BEGIN words of one list among another's, by their places ===== -/
theorem goodIn_r {big : List Cond} (ws : List Cond) (ps : List Nat) (hp : ws = ps.filterMap (fun i => big[i]?)) (h : ws.all goodWord = true) : GoodIn big ws := by
  intro w hw
  have h1 := List.all_eq_true.mp h w hw
  rw [hp] at hw
  obtain ⟨i, -, hi⟩ := List.mem_filterMap.mp hw
  have hm : w ∈ big := by first | exact List.mem_of_getElem? hi | exact List.getElem?_mem hi
  exact ⟨hm, good_of_word h1⟩
theorem goodIn_app {big a b : List Cond} (ha : GoodIn big a) (hb : GoodIn big b) : GoodIn big (a ++ b) := fun w h => (List.mem_append.mp h).elim (ha w) (hb w)
theorem goodIn_ca {big a b : List Cond} {c : Cond} (ha : GoodIn big (c :: a)) (hb : GoodIn big b) : GoodIn big (c :: (a ++ b)) := fun w h => (List.mem_cons.mp h).elim (fun e => ha w (List.mem_cons.mpr (Or.inl e))) (fun h => (List.mem_append.mp h).elim (fun h => ha w (List.mem_cons.mpr (Or.inr h))) (hb w))
theorem goodIn_sub {big ws : List Cond} (hm : ∀ w ∈ ws, w ∈ big) (h : ws.all goodWord = true) : GoodIn big ws := fun w hw => ⟨hm w hw, good_of_word (List.all_eq_true.mp h w hw)⟩
/-! ===== END ===== -/
/-! ===== BEGIN printed: names, fields, word lists, decode rows ===== -/
def RX0 : String := "DieStudy$Chronology"
def TX0 : u_T := fun k => match k with
  | 0 => ("DieStudy$Chronology", "order", "[I", true)
  | 1 => ("DieStudy$Chronology", "depth", "[I", true)
  | _ => ("DieStudy$Chronology", "waitsFor", "[I", true)
def tyX0 : Nat → FieldType := fun k => match k with
  | 0 => .array .int
  | 1 => .array .int
  | _ => .array .int
abbrev wsX00 : List Cond := u_ws RX0 TX0 3
theorem nmX0 : ∀ a, a < 3 → ∀ b, b < 3 → a ≠ b → (TX0 a).2.1 ≠ (TX0 b).2.1 := by decide +kernel
theorem tyX0_ok : ∀ k, k < 3 → parseFieldDescriptor (TX0 k).2.2.1 = some (tyX0 k) := by decide +kernel
abbrev cX0_init : ByteArray := prog_2_method_1_code
def yX0_init : MethodName := ⟨RX0, "<init>", "()V"⟩
abbrev cX0_arrange : ByteArray := prog_2_method_2_code
def yX0_arrange : MethodName := ⟨RX0, "arrange", "(LDieStudy$Couples;)Z"⟩
abbrev cX0_countEarlier : ByteArray := prog_2_method_3_code
def yX0_countEarlier : MethodName := ⟨RX0, "countEarlier", "(LDieStudy$Couples;)V"⟩
abbrev cX0_lowestThatWaitsForNone : ByteArray := prog_2_method_4_code
def yX0_lowestThatWaitsForNone : MethodName := ⟨RX0, "lowestThatWaitsForNone", "(I)I"⟩
abbrev cX0_releaseLater : ByteArray := prog_2_method_5_code
def yX0_releaseLater : MethodName := ⟨RX0, "releaseLater", "(LDieStudy$Couples;I)V"⟩
def RX1 : String := "DieStudy$Couples"
def TX1 : u_T := fun k => match k with
  | 0 => ("DieStudy$Couples", "numberOfPair", "[I", true)
  | 1 => ("DieStudy$Couples", "die", "[[I", true)
  | 2 => ("DieStudy$Couples", "leastWear", "[[I", true)
  | 3 => ("DieStudy$Couples", "greatestWear", "[[I", true)
  | _ => ("DieStudy$Couples", "count", "I", false)
def tyX1 : Nat → FieldType := fun k => match k with
  | 0 => .array .int
  | 1 => .array (.array .int)
  | 2 => .array (.array .int)
  | 3 => .array (.array .int)
  | _ => .int
abbrev wsX10 : List Cond := u_ws RX1 TX1 5
theorem nmX1 : ∀ a, a < 5 → ∀ b, b < 5 → a ≠ b → (TX1 a).2.1 ≠ (TX1 b).2.1 := by decide +kernel
theorem tyX1_ok : ∀ k, k < 5 → parseFieldDescriptor (TX1 k).2.2.1 = some (tyX1 k) := by decide +kernel
abbrev cX1_init : ByteArray := prog_3_method_1_code
def yX1_init : MethodName := ⟨RX1, "<init>", "()V"⟩
abbrev cX1_has : ByteArray := prog_3_method_2_code
def yX1_has : MethodName := ⟨RX1, "has", "(I)Z"⟩
abbrev cX1_list : ByteArray := prog_3_method_3_code
def yX1_list : MethodName := ⟨RX1, "list", "(LDieStudy$Specimens;)V"⟩
abbrev cX1_pairOf : ByteArray := prog_3_method_4_code
def yX1_pairOf : MethodName := ⟨RX1, "pairOf", "(LDieStudy$Specimens;I)I"⟩
abbrev cX1_markPairs : ByteArray := prog_3_method_5_code
def yX1_markPairs : MethodName := ⟨RX1, "markPairs", "(LDieStudy$Specimens;)V"⟩
abbrev cX1_numberPairs : ByteArray := prog_3_method_6_code
def yX1_numberPairs : MethodName := ⟨RX1, "numberPairs", "()V"⟩
abbrev cX1_enter : ByteArray := prog_3_method_7_code
def yX1_enter : MethodName := ⟨RX1, "enter", "(II)V"⟩
abbrev cX1_spanWear : ByteArray := prog_3_method_8_code
def yX1_spanWear : MethodName := ⟨RX1, "spanWear", "(III)V"⟩
abbrev cX1_isEarlier : ByteArray := prog_3_method_9_code
def yX1_isEarlier : MethodName := ⟨RX1, "isEarlier", "(II)Z"⟩
abbrev cX1_isEarlierBy : ByteArray := prog_3_method_10_code
def yX1_isEarlierBy : MethodName := ⟨RX1, "isEarlierBy", "(III)Z"⟩
def RX2 : String := "DieStudy$History"
def TX2 : u_T := fun k => match k with
  | 0 => ("DieStudy$History", "cells", "[I", true)
  | 1 => ("DieStudy$History", "counts", "[I", true)
  | 2 => ("DieStudy$History", "saved", "I", false)
  | _ => ("DieStudy$History", "next", "I", false)
def tyX2 : Nat → FieldType := fun k => match k with
  | 0 => .array .int
  | 1 => .array .int
  | 2 => .int
  | _ => .int
abbrev wsX20 : List Cond := u_ws RX2 TX2 4
theorem nmX2 : ∀ a, a < 4 → ∀ b, b < 4 → a ≠ b → (TX2 a).2.1 ≠ (TX2 b).2.1 := by decide +kernel
theorem tyX2_ok : ∀ k, k < 4 → parseFieldDescriptor (TX2 k).2.2.1 = some (tyX2 k) := by decide +kernel
abbrev cX2_init : ByteArray := prog_4_method_1_code
def yX2_init : MethodName := ⟨RX2, "<init>", "()V"⟩
abbrev cX2_save : ByteArray := prog_4_method_2_code
def yX2_save : MethodName := ⟨RX2, "save", "(LDieStudy$Specimens;)V"⟩
abbrev cX2_restore : ByteArray := prog_4_method_3_code
def yX2_restore : MethodName := ⟨RX2, "restore", "(LDieStudy$Specimens;)V"⟩
def RX3 : String := "DieStudy$LinkGraph"
def TX3 : u_T := fun k => match k with
  | 0 => ("DieStudy$LinkGraph", "component", "[I", true)
  | 1 => ("DieStudy$LinkGraph", "dies", "I", false)
  | _ => ("DieStudy$LinkGraph", "components", "I", false)
def tyX3 : Nat → FieldType := fun k => match k with
  | 0 => .array .int
  | 1 => .int
  | _ => .int
abbrev wsX30 : List Cond := u_ws RX3 TX3 3
theorem nmX3 : ∀ a, a < 3 → ∀ b, b < 3 → a ≠ b → (TX3 a).2.1 ≠ (TX3 b).2.1 := by decide +kernel
theorem tyX3_ok : ∀ k, k < 3 → parseFieldDescriptor (TX3 k).2.2.1 = some (tyX3 k) := by decide +kernel
abbrev cX3_init : ByteArray := prog_5_method_1_code
def yX3_init : MethodName := ⟨RX3, "<init>", "()V"⟩
abbrev cX3_vertexOf : ByteArray := prog_5_method_2_code
def yX3_vertexOf : MethodName := ⟨RX3, "vertexOf", "(II)I"⟩
abbrev cX3_connect : ByteArray := prog_5_method_3_code
def yX3_connect : MethodName := ⟨RX3, "connect", "(LDieStudy$Couples;I)V"⟩
abbrev cX3_obverseOf : ByteArray := prog_5_method_4_code
def yX3_obverseOf : MethodName := ⟨RX3, "obverseOf", "(LDieStudy$Couples;I)I"⟩
abbrev cX3_reverseOf : ByteArray := prog_5_method_5_code
def yX3_reverseOf : MethodName := ⟨RX3, "reverseOf", "(LDieStudy$Couples;I)I"⟩
abbrev cX3_enterDies : ByteArray := prog_5_method_6_code
def yX3_enterDies : MethodName := ⟨RX3, "enterDies", "(LDieStudy$Couples;)V"⟩
abbrev cX3_enterDie : ByteArray := prog_5_method_7_code
def yX3_enterDie : MethodName := ⟨RX3, "enterDie", "(I)V"⟩
abbrev cX3_join : ByteArray := prog_5_method_8_code
def yX3_join : MethodName := ⟨RX3, "join", "(II)V"⟩
abbrev cX3_fallsApartWithout : ByteArray := prog_5_method_9_code
def yX3_fallsApartWithout : MethodName := ⟨RX3, "fallsApartWithout", "(LDieStudy$Couples;I)Z"⟩
abbrev cX3_diesAround : ByteArray := prog_5_method_10_code
def yX3_diesAround : MethodName := ⟨RX3, "diesAround", "(II)I"⟩
def RX4 : String := "DieStudy$Specimens"
def TX4 : u_T := fun k => match k with
  | 0 => ("DieStudy$Specimens", "cells", "[I", true)
  | _ => ("DieStudy$Specimens", "count", "I", false)
def tyX4 : Nat → FieldType := fun k => match k with
  | 0 => .array .int
  | _ => .int
abbrev wsX40 : List Cond := u_ws RX4 TX4 2
theorem nmX4 : ∀ a, a < 2 → ∀ b, b < 2 → a ≠ b → (TX4 a).2.1 ≠ (TX4 b).2.1 := by decide +kernel
theorem tyX4_ok : ∀ k, k < 2 → parseFieldDescriptor (TX4 k).2.2.1 = some (tyX4 k) := by decide +kernel
abbrev cX4_init : ByteArray := prog_6_method_1_code
def yX4_init : MethodName := ⟨RX4, "<init>", "()V"⟩
abbrev cX4_has : ByteArray := prog_6_method_2_code
def yX4_has : MethodName := ⟨RX4, "has", "(I)Z"⟩
abbrev cX4_die : ByteArray := prog_6_method_3_code
def yX4_die : MethodName := ⟨RX4, "die", "(II)I"⟩
abbrev cX4_putDie : ByteArray := prog_6_method_4_code
def yX4_putDie : MethodName := ⟨RX4, "putDie", "(III)V"⟩
abbrev cX4_wear : ByteArray := prog_6_method_5_code
def yX4_wear : MethodName := ⟨RX4, "wear", "(II)I"⟩
abbrev cX4_putWear : ByteArray := prog_6_method_6_code
def yX4_putWear : MethodName := ⟨RX4, "putWear", "(III)V"⟩
abbrev cX4_close : ByteArray := prog_6_method_7_code
def yX4_close : MethodName := ⟨RX4, "close", "(I)V"⟩
abbrev cX4_replaceDie : ByteArray := prog_6_method_8_code
def yX4_replaceDie : MethodName := ⟨RX4, "replaceDie", "(III)I"⟩
abbrev cX4_struckWith : ByteArray := prog_6_method_9_code
def yX4_struckWith : MethodName := ⟨RX4, "struckWith", "(II)I"⟩
abbrev cX4_wearSum : ByteArray := prog_6_method_10_code
def yX4_wearSum : MethodName := ⟨RX4, "wearSum", "(II)I"⟩
abbrev cX4_knownDies : ByteArray := prog_6_method_11_code
def yX4_knownDies : MethodName := ⟨RX4, "knownDies", "(I)I"⟩
abbrev cX4_diesStruckOnce : ByteArray := prog_6_method_12_code
def yX4_diesStruckOnce : MethodName := ⟨RX4, "diesStruckOnce", "(I)I"⟩
def RX5 : String := "DieStudy"
def TX5 : u_T := fun k => match k with
  | 0 => ("DieStudy", "specimens", "LDieStudy$Specimens;", true)
  | 1 => ("DieStudy", "history", "LDieStudy$History;", true)
  | 2 => ("DieStudy", "couples", "LDieStudy$Couples;", true)
  | 3 => ("DieStudy", "graph", "LDieStudy$LinkGraph;", true)
  | _ => ("DieStudy", "chronology", "LDieStudy$Chronology;", true)
def tyX5 : Nat → FieldType := fun k => match k with
  | 0 => .object "DieStudy$Specimens"
  | 1 => .object "DieStudy$History"
  | 2 => .object "DieStudy$Couples"
  | 3 => .object "DieStudy$LinkGraph"
  | _ => .object "DieStudy$Chronology"
abbrev wsX50 : List Cond := u_ws RX5 TX5 5
theorem nmX5 : ∀ a, a < 5 → ∀ b, b < 5 → a ≠ b → (TX5 a).2.1 ≠ (TX5 b).2.1 := by decide +kernel
theorem tyX5_ok : ∀ k, k < 5 → parseFieldDescriptor (TX5 k).2.2.1 = some (tyX5 k) := by decide +kernel
abbrev cX5_init : ByteArray := prog_1_method_1_code
def yX5_init : MethodName := ⟨RX5, "<init>", "()V"⟩
abbrev cX5_addSpecimen : ByteArray := prog_1_method_2_code
def yX5_addSpecimen : MethodName := ⟨RX5, "addSpecimen", "(IIII)I"⟩
abbrev cX5_removeSpecimen : ByteArray := prog_1_method_3_code
def yX5_removeSpecimen : MethodName := ⟨RX5, "removeSpecimen", "(I)I"⟩
abbrev cX5_setWear : ByteArray := prog_1_method_4_code
def yX5_setWear : MethodName := ⟨RX5, "setWear", "(III)I"⟩
abbrev cX5_mergeDies : ByteArray := prog_1_method_5_code
def yX5_mergeDies : MethodName := ⟨RX5, "mergeDies", "(III)I"⟩
abbrev cX5_specimenCount : ByteArray := prog_1_method_6_code
def yX5_specimenCount : MethodName := ⟨RX5, "specimenCount", "()I"⟩
abbrev cX5_dieOf : ByteArray := prog_1_method_7_code
def yX5_dieOf : MethodName := ⟨RX5, "dieOf", "(II)I"⟩
abbrev cX5_dieCount : ByteArray := prog_1_method_8_code
def yX5_dieCount : MethodName := ⟨RX5, "dieCount", "(I)I"⟩
abbrev cX5_frequency : ByteArray := prog_1_method_9_code
def yX5_frequency : MethodName := ⟨RX5, "frequency", "(II)I"⟩
abbrev cX5_meanWearBits : ByteArray := prog_1_method_10_code
def yX5_meanWearBits : MethodName := ⟨RX5, "meanWearBits", "(II)I"⟩
abbrev cX5_coupleCount : ByteArray := prog_1_method_11_code
def yX5_coupleCount : MethodName := ⟨RX5, "coupleCount", "()I"⟩
abbrev cX5_coupleAt : ByteArray := prog_1_method_12_code
def yX5_coupleAt : MethodName := ⟨RX5, "coupleAt", "(I)I"⟩
abbrev cX5_componentCount : ByteArray := prog_1_method_13_code
def yX5_componentCount : MethodName := ⟨RX5, "componentCount", "()I"⟩
abbrev cX5_componentSize : ByteArray := prog_1_method_14_code
def yX5_componentSize : MethodName := ⟨RX5, "componentSize", "(II)I"⟩
abbrev cX5_cycleRank : ByteArray := prog_1_method_15_code
def yX5_cycleRank : MethodName := ⟨RX5, "cycleRank", "()I"⟩
abbrev cX5_bridgeCount : ByteArray := prog_1_method_16_code
def yX5_bridgeCount : MethodName := ⟨RX5, "bridgeCount", "()I"⟩
abbrev cX5_isBridge : ByteArray := prog_1_method_17_code
def yX5_isBridge : MethodName := ⟨RX5, "isBridge", "(I)I"⟩
abbrev cX5_compareCouples : ByteArray := prog_1_method_18_code
def yX5_compareCouples : MethodName := ⟨RX5, "compareCouples", "(II)I"⟩
abbrev cX5_isConsistent : ByteArray := prog_1_method_19_code
def yX5_isConsistent : MethodName := ⟨RX5, "isConsistent", "()I"⟩
abbrev cX5_coupleInOrder : ByteArray := prog_1_method_20_code
def yX5_coupleInOrder : MethodName := ⟨RX5, "coupleInOrder", "(I)I"⟩
abbrev cX5_generation : ByteArray := prog_1_method_21_code
def yX5_generation : MethodName := ⟨RX5, "generation", "(I)I"⟩
abbrev cX5_singletons : ByteArray := prog_1_method_22_code
def yX5_singletons : MethodName := ⟨RX5, "singletons", "(I)I"⟩
abbrev cX5_coverageEstimate : ByteArray := prog_1_method_23_code
def yX5_coverageEstimate : MethodName := ⟨RX5, "coverageEstimate", "(I)I"⟩
abbrev cX5_frequencyEstimate : ByteArray := prog_1_method_24_code
def yX5_frequencyEstimate : MethodName := ⟨RX5, "frequencyEstimate", "(I)I"⟩
abbrev cX5_undo : ByteArray := prog_1_method_25_code
def yX5_undo : MethodName := ⟨RX5, "undo", "()I"⟩
abbrev cX5_isSide : ByteArray := prog_1_method_26_code
def yX5_isSide : MethodName := ⟨RX5, "isSide", "(I)Z"⟩
abbrev cX5_isDie : ByteArray := prog_1_method_27_code
def yX5_isDie : MethodName := ⟨RX5, "isDie", "(I)Z"⟩
abbrev cX5_isWear : ByteArray := prog_1_method_28_code
def yX5_isWear : MethodName := ⟨RX5, "isWear", "(I)Z"⟩
abbrev cX5_errorOfPlace : ByteArray := prog_1_method_29_code
def yX5_errorOfPlace : MethodName := ⟨RX5, "errorOfPlace", "(I)I"⟩
abbrev cX5_divisorOfFrequencyEstimate : ByteArray := prog_1_method_30_code
def yX5_divisorOfFrequencyEstimate : MethodName := ⟨RX5, "divisorOfFrequencyEstimate", "(II)I"⟩
abbrev cX5_bitsOf : ByteArray := prog_1_method_31_code
def yX5_bitsOf : MethodName := ⟨RX5, "bitsOf", "(F)I"⟩
def RX6 : String := "DieStudyModel"
def TX6 : u_T := fun k => match k with
  | 0 => ("DieStudyModel", "now", "[I", true)
  | 1 => ("DieStudyModel", "history", "[I", true)
  | 2 => ("DieStudyModel", "edits", "I", false)
  | 3 => ("DieStudyModel", "couples", "I", false)
  | 4 => ("DieStudyModel", "obverse", "[I", true)
  | 5 => ("DieStudyModel", "reverse", "[I", true)
  | 6 => ("DieStudyModel", "low", "[I", true)
  | 7 => ("DieStudyModel", "high", "[I", true)
  | 8 => ("DieStudyModel", "order", "[I", true)
  | 9 => ("DieStudyModel", "generations", "[I", true)
  | 10 => ("DieStudyModel", "placed", "[Z", true)
  | _ => ("DieStudyModel", "net", "[I", true)
def tyX6 : Nat → FieldType := fun k => match k with
  | 0 => .array .int
  | 1 => .array .int
  | 2 => .int
  | 3 => .int
  | 4 => .array .int
  | 5 => .array .int
  | 6 => .array .int
  | 7 => .array .int
  | 8 => .array .int
  | 9 => .array .int
  | 10 => .array .boolean
  | _ => .array .int
abbrev wsX60 : List Cond := u_ws RX6 TX6 12
theorem nmX6 : ∀ a, a < 12 → ∀ b, b < 12 → a ≠ b → (TX6 a).2.1 ≠ (TX6 b).2.1 := by decide +kernel
theorem tyX6_ok : ∀ k, k < 12 → parseFieldDescriptor (TX6 k).2.2.1 = some (tyX6 k) := by decide +kernel
abbrev cX6_init : ByteArray := prog_8_method_1_code
def yX6_init : MethodName := ⟨RX6, "<init>", "()V"⟩
abbrev cX6_in : ByteArray := prog_8_method_2_code
def yX6_in : MethodName := ⟨RX6, "in", "(III)Z"⟩
abbrev cX6_edit : ByteArray := prog_8_method_3_code
def yX6_edit : MethodName := ⟨RX6, "edit", "()V"⟩
abbrev cX6_undo : ByteArray := prog_8_method_4_code
def yX6_undo : MethodName := ⟨RX6, "undo", "()I"⟩
abbrev cX6_addSpecimen : ByteArray := prog_8_method_5_code
def yX6_addSpecimen : MethodName := ⟨RX6, "addSpecimen", "(IIII)I"⟩
abbrev cX6_isSpecimen : ByteArray := prog_8_method_6_code
def yX6_isSpecimen : MethodName := ⟨RX6, "isSpecimen", "(I)Z"⟩
abbrev cX6_removeSpecimen : ByteArray := prog_8_method_7_code
def yX6_removeSpecimen : MethodName := ⟨RX6, "removeSpecimen", "(I)I"⟩
abbrev cX6_isSide : ByteArray := prog_8_method_8_code
def yX6_isSide : MethodName := ⟨RX6, "isSide", "(I)Z"⟩
abbrev cX6_setWear : ByteArray := prog_8_method_9_code
def yX6_setWear : MethodName := ⟨RX6, "setWear", "(III)I"⟩
abbrev cX6_specimens : ByteArray := prog_8_method_10_code
def yX6_specimens : MethodName := ⟨RX6, "specimens", "(II)I"⟩
abbrev cX6_isDie : ByteArray := prog_8_method_11_code
def yX6_isDie : MethodName := ⟨RX6, "isDie", "(II)Z"⟩
abbrev cX6_mergeDies : ByteArray := prog_8_method_12_code
def yX6_mergeDies : MethodName := ⟨RX6, "mergeDies", "(III)I"⟩
abbrev cX6_specimenCount : ByteArray := prog_8_method_13_code
def yX6_specimenCount : MethodName := ⟨RX6, "specimenCount", "()I"⟩
abbrev cX6_dieOf : ByteArray := prog_8_method_14_code
def yX6_dieOf : MethodName := ⟨RX6, "dieOf", "(II)I"⟩
abbrev cX6_known : ByteArray := prog_8_method_15_code
def yX6_known : MethodName := ⟨RX6, "known", "(I)I"⟩
abbrev cX6_dieCount : ByteArray := prog_8_method_16_code
def yX6_dieCount : MethodName := ⟨RX6, "dieCount", "(I)I"⟩
abbrev cX6_frequency : ByteArray := prog_8_method_17_code
def yX6_frequency : MethodName := ⟨RX6, "frequency", "(II)I"⟩
abbrev cX6_bits : ByteArray := prog_8_method_18_code
def yX6_bits : MethodName := ⟨RX6, "bits", "(II)I"⟩
abbrev cX6_meanWearBits : ByteArray := prog_8_method_19_code
def yX6_meanWearBits : MethodName := ⟨RX6, "meanWearBits", "(II)I"⟩
abbrev cX6_isCouple : ByteArray := prog_8_method_20_code
def yX6_isCouple : MethodName := ⟨RX6, "isCouple", "(III)Z"⟩
abbrev cX6_finds : ByteArray := prog_8_method_21_code
def yX6_finds : MethodName := ⟨RX6, "finds", "()V"⟩
abbrev cX6_coupleCount : ByteArray := prog_8_method_22_code
def yX6_coupleCount : MethodName := ⟨RX6, "coupleCount", "()I"⟩
abbrev cX6_coupleAt : ByteArray := prog_8_method_23_code
def yX6_coupleAt : MethodName := ⟨RX6, "coupleAt", "(I)I"⟩
abbrev cX6_nets : ByteArray := prog_8_method_24_code
def yX6_nets : MethodName := ⟨RX6, "nets", "(I)I"⟩
abbrev cX6_componentCount : ByteArray := prog_8_method_25_code
def yX6_componentCount : MethodName := ⟨RX6, "componentCount", "()I"⟩
abbrev cX6_componentSize : ByteArray := prog_8_method_26_code
def yX6_componentSize : MethodName := ⟨RX6, "componentSize", "(II)I"⟩
abbrev cX6_cycleRank : ByteArray := prog_8_method_27_code
def yX6_cycleRank : MethodName := ⟨RX6, "cycleRank", "()I"⟩
abbrev cX6_bridgeCount : ByteArray := prog_8_method_28_code
def yX6_bridgeCount : MethodName := ⟨RX6, "bridgeCount", "()I"⟩
abbrev cX6_isBridge : ByteArray := prog_8_method_29_code
def yX6_isBridge : MethodName := ⟨RX6, "isBridge", "(I)I"⟩
abbrev cX6_isBy : ByteArray := prog_8_method_30_code
def yX6_isBy : MethodName := ⟨RX6, "isBy", "(III)Z"⟩
abbrev cX6_isEarlier : ByteArray := prog_8_method_31_code
def yX6_isEarlier : MethodName := ⟨RX6, "isEarlier", "(II)Z"⟩
abbrev cX6_compareCouples : ByteArray := prog_8_method_32_code
def yX6_compareCouples : MethodName := ⟨RX6, "compareCouples", "(II)I"⟩
abbrev cX6_places : ByteArray := prog_8_method_33_code
def yX6_places : MethodName := ⟨RX6, "places", "()Z"⟩
abbrev cX6_isConsistent : ByteArray := prog_8_method_34_code
def yX6_isConsistent : MethodName := ⟨RX6, "isConsistent", "()I"⟩
abbrev cX6_coupleInOrder : ByteArray := prog_8_method_35_code
def yX6_coupleInOrder : MethodName := ⟨RX6, "coupleInOrder", "(I)I"⟩
abbrev cX6_generation : ByteArray := prog_8_method_36_code
def yX6_generation : MethodName := ⟨RX6, "generation", "(I)I"⟩
abbrev cX6_single : ByteArray := prog_8_method_37_code
def yX6_single : MethodName := ⟨RX6, "single", "(I)I"⟩
abbrev cX6_singletons : ByteArray := prog_8_method_38_code
def yX6_singletons : MethodName := ⟨RX6, "singletons", "(I)I"⟩
abbrev cX6_coverageEstimate : ByteArray := prog_8_method_39_code
def yX6_coverageEstimate : MethodName := ⟨RX6, "coverageEstimate", "(I)I"⟩
abbrev cX6_frequencyEstimate : ByteArray := prog_8_method_40_code
def yX6_frequencyEstimate : MethodName := ⟨RX6, "frequencyEstimate", "(I)I"⟩
def RJ9 : String := "java/lang/Math"
def TJ9 : u_T := fun k => match k with
  | _ => ("", "", "", false)
def tyJ9 : Nat → FieldType := fun k => match k with
  | _ => .int
abbrev wsJ90 : List Cond := u_ws RJ9 TJ9 0
theorem nmJ9 : ∀ a, a < 0 → ∀ b, b < 0 → a ≠ b → (TJ9 a).2.1 ≠ (TJ9 b).2.1 := by decide +kernel
theorem tyJ9_ok : ∀ k, k < 0 → parseFieldDescriptor (TJ9 k).2.2.1 = some (tyJ9 k) := by decide +kernel
abbrev cJ9_max_7cf53 : ByteArray := prog_9_method_65_code
def yJ9_max_7cf53 : MethodName := ⟨RJ9, "max", "(II)I"⟩
abbrev cJ9_min_7cf53 : ByteArray := prog_9_method_69_code
def yJ9_min_7cf53 : MethodName := ⟨RJ9, "min", "(II)I"⟩
def RJ10 : String := "java/lang/System"
def TJ10 : u_T := fun k => match k with
  | _ => ("", "", "", false)
def tyJ10 : Nat → FieldType := fun k => match k with
  | _ => .int
abbrev wsJ100 : List Cond := u_ws RJ10 TJ10 0
theorem nmJ10 : ∀ a, a < 0 → ∀ b, b < 0 → a ≠ b → (TJ10 a).2.1 ≠ (TJ10 b).2.1 := by decide +kernel
theorem tyJ10_ok : ∀ k, k < 0 → parseFieldDescriptor (TJ10 k).2.2.1 = some (tyJ10 k) := by decide +kernel
def RJ7 : String := "java/util/Arrays"
def TJ7 : u_T := fun k => match k with
  | _ => ("", "", "", false)
def tyJ7 : Nat → FieldType := fun k => match k with
  | _ => .int
abbrev wsJ70 : List Cond := u_ws RJ7 TJ7 0
theorem nmJ7 : ∀ a, a < 0 → ∀ b, b < 0 → a ≠ b → (TJ7 a).2.1 ≠ (TJ7 b).2.1 := by decide +kernel
theorem tyJ7_ok : ∀ k, k < 0 → parseFieldDescriptor (TJ7 k).2.2.1 = some (tyJ7 k) := by decide +kernel
abbrev cJ7_fill_53178 : ByteArray := prog_11_method_103_code
def yJ7_fill_53178 : MethodName := ⟨RJ7, "fill", "([II)V"⟩
def RL : String := "DieStudyLaw"
abbrev cL_law : ByteArray := code
def yL_law : MethodName := ⟨RL, "law", "([I)Z"⟩
def wsL_law_r1 : List Cond := [Cond.classLink RL 7 RX5, Cond.instantiable RX5 5, Cond.initialized RX5, Cond.classLink RL 10 RX6, Cond.instantiable RX6 12, Cond.initialized RX6, Cond.methodLink RL 9 yX5_init, Cond.instanceMethod yX5_init, Cond.code yX5_init cX5_init 1 none, Cond.methodLink RX5 1 objectInit, Cond.instanceMethod objectInit, Cond.code objectInit ⟨#[0xb1]⟩ 1 none, Cond.classLink RX5 7 RX4, Cond.instantiable RX4 2, Cond.initialized RX4, Cond.fieldLink RX5 10 "DieStudy" "specimens" "LDieStudy$Specimens;", Cond.classLink RX5 16 RX2, Cond.instantiable RX2 4, Cond.initialized RX2, Cond.fieldLink RX5 19 "DieStudy" "history" "LDieStudy$History;", Cond.classLink RX5 23 RX1, Cond.instantiable RX1 5, Cond.initialized RX1, Cond.fieldLink RX5 26 "DieStudy" "couples" "LDieStudy$Couples;"]
def wsL_law_r2 : List Cond := [Cond.classLink RX5 30 RX3, Cond.instantiable RX3 3, Cond.initialized RX3, Cond.fieldLink RX5 33 "DieStudy" "graph" "LDieStudy$LinkGraph;", Cond.classLink RX5 37 RX0, Cond.instantiable RX0 3, Cond.initialized RX0, Cond.fieldLink RX5 40 "DieStudy" "chronology" "LDieStudy$Chronology;", Cond.instanceMethod yX4_init, Cond.code yX4_init cX4_init 1 none, Cond.methodLink RX4 5 objectInit, Cond.arrayClass .int, Cond.fieldLink RX4 11 "DieStudy$Specimens" "cells" "[I", Cond.fieldLink RX4 15 "DieStudy$Specimens" "count" "I", Cond.instanceMethod yX2_init, Cond.code yX2_init cX2_init 1 none, Cond.methodLink RX2 3 objectInit, Cond.fieldLink RX2 11 "DieStudy$History" "cells" "[I", Cond.fieldLink RX2 17 "DieStudy$History" "counts" "[I", Cond.fieldLink RX2 20 "DieStudy$History" "saved" "I", Cond.fieldLink RX2 24 "DieStudy$History" "next" "I", Cond.instanceMethod yX1_init, Cond.code yX1_init cX1_init 1 none, Cond.methodLink RX1 3 objectInit]
def wsL_law_r3 : List Cond := [Cond.fieldLink RX1 11 "DieStudy$Couples" "numberOfPair" "[I", Cond.classLink RX1 15 "[[I", Cond.fieldLink RX1 17 "DieStudy$Couples" "die" "[[I", Cond.fieldLink RX1 20 "DieStudy$Couples" "leastWear" "[[I", Cond.fieldLink RX1 23 "DieStudy$Couples" "greatestWear" "[[I", Cond.fieldLink RX1 26 "DieStudy$Couples" "count" "I", Cond.instanceMethod yX3_init, Cond.code yX3_init cX3_init 1 none, Cond.methodLink RX3 3 objectInit, Cond.fieldLink RX3 11 "DieStudy$LinkGraph" "component" "[I", Cond.fieldLink RX3 15 "DieStudy$LinkGraph" "dies" "I", Cond.fieldLink RX3 19 "DieStudy$LinkGraph" "components" "I", Cond.instanceMethod yX0_init, Cond.code yX0_init cX0_init 1 none, Cond.methodLink RX0 3 objectInit, Cond.fieldLink RX0 9 "DieStudy$Chronology" "order" "[I", Cond.fieldLink RX0 15 "DieStudy$Chronology" "depth" "[I", Cond.fieldLink RX0 18 "DieStudy$Chronology" "waitsFor" "[I", Cond.methodLink RL 12 yX6_init, Cond.instanceMethod yX6_init, Cond.code yX6_init cX6_init 1 none, Cond.methodLink RX6 1 objectInit, Cond.fieldLink RX6 7 "DieStudyModel" "now" "[I", Cond.fieldLink RX6 13 "DieStudyModel" "history" "[I"]
def wsL_law_r4 : List Cond := [Cond.fieldLink RX6 16 "DieStudyModel" "obverse" "[I", Cond.fieldLink RX6 19 "DieStudyModel" "reverse" "[I", Cond.fieldLink RX6 22 "DieStudyModel" "low" "[I", Cond.fieldLink RX6 25 "DieStudyModel" "high" "[I", Cond.fieldLink RX6 28 "DieStudyModel" "order" "[I", Cond.fieldLink RX6 31 "DieStudyModel" "generations" "[I", Cond.arrayClass .boolean, Cond.fieldLink RX6 34 "DieStudyModel" "placed" "[Z", Cond.fieldLink RX6 38 "DieStudyModel" "net" "[I", Cond.methodLink RL 13 yX5_addSpecimen, Cond.instanceMethod yX5_addSpecimen, Cond.selects RX5 yX5_addSpecimen yX5_addSpecimen, Cond.code yX5_addSpecimen cX5_addSpecimen 6 (some .int), Cond.methodLink RX5 44 yX5_isDie, Cond.static yX5_isDie, Cond.code yX5_isDie cX5_isDie 1 (some .boolean), Cond.methodLink RX5 48 yX5_isWear, Cond.static yX5_isWear, Cond.code yX5_isWear cX5_isWear 1 (some .boolean), Cond.instanceMethod yX2_save, Cond.selects RX2 yX2_save yX2_save, Cond.code yX2_save cX2_save 2 none, Cond.methodLink RX2 28 arraycopyName, Cond.native arraycopyName]
def wsL_law_r5 : List Cond := [Cond.static arraycopyName, Cond.initialized "java/lang/System", Cond.instanceMethod yX4_putDie, Cond.selects RX4 yX4_putDie yX4_putDie, Cond.code yX4_putDie cX4_putDie 4 none, Cond.instanceMethod yX4_putWear, Cond.selects RX4 yX4_putWear yX4_putWear, Cond.code yX4_putWear cX4_putWear 4 none, Cond.methodLink RL 17 yX6_addSpecimen, Cond.instanceMethod yX6_addSpecimen, Cond.selects RX6 yX6_addSpecimen yX6_addSpecimen, Cond.code yX6_addSpecimen cX6_addSpecimen 6 (some .int), Cond.methodLink RX6 45 yX6_in, Cond.static yX6_in, Cond.code yX6_in cX6_in 3 (some .boolean), Cond.methodLink RX6 49 yX6_edit, Cond.instanceMethod yX6_edit, Cond.selects RX6 yX6_edit yX6_edit, Cond.code yX6_edit cX6_edit 2 none, Cond.fieldLink RX6 41 "DieStudyModel" "edits" "I", Cond.methodLink RL 18 yX5_removeSpecimen, Cond.instanceMethod yX5_removeSpecimen, Cond.selects RX5 yX5_removeSpecimen yX5_removeSpecimen, Cond.code yX5_removeSpecimen cX5_removeSpecimen 2 (some .int)]
def wsL_law_r6 : List Cond := [Cond.instanceMethod yX4_has, Cond.selects RX4 yX4_has yX4_has, Cond.code yX4_has cX4_has 2 (some .boolean), Cond.instanceMethod yX4_close, Cond.selects RX4 yX4_close yX4_close, Cond.code yX4_close cX4_close 4 none, Cond.methodLink RX4 19 arraycopyName, Cond.methodLink RL 22 yX6_removeSpecimen, Cond.instanceMethod yX6_removeSpecimen, Cond.selects RX6 yX6_removeSpecimen yX6_removeSpecimen, Cond.code yX6_removeSpecimen cX6_removeSpecimen 3 (some .int), Cond.methodLink RX6 52 yX6_isSpecimen, Cond.instanceMethod yX6_isSpecimen, Cond.selects RX6 yX6_isSpecimen yX6_isSpecimen, Cond.code yX6_isSpecimen cX6_isSpecimen 2 (some .boolean), Cond.methodLink RL 23 yX5_setWear, Cond.instanceMethod yX5_setWear, Cond.selects RX5 yX5_setWear yX5_setWear, Cond.code yX5_setWear cX5_setWear 5 (some .int), Cond.methodLink RX5 73 yX5_isSide, Cond.static yX5_isSide, Cond.code yX5_isSide cX5_isSide 1 (some .boolean), Cond.instanceMethod yX4_wear, Cond.selects RX4 yX4_wear yX4_wear]
def wsL_law_r7 : List Cond := [Cond.code yX4_wear cX4_wear 3 (some .int), Cond.methodLink RL 27 yX6_setWear, Cond.instanceMethod yX6_setWear, Cond.selects RX6 yX6_setWear yX6_setWear, Cond.code yX6_setWear cX6_setWear 5 (some .int), Cond.methodLink RX6 56 yX6_isSide, Cond.static yX6_isSide, Cond.code yX6_isSide cX6_isSide 1 (some .boolean), Cond.methodLink RL 28 yX5_mergeDies, Cond.instanceMethod yX5_mergeDies, Cond.selects RX5 yX5_mergeDies yX5_mergeDies, Cond.code yX5_mergeDies cX5_mergeDies 4 (some .int), Cond.instanceMethod yX4_struckWith, Cond.selects RX4 yX4_struckWith yX4_struckWith, Cond.code yX4_struckWith cX4_struckWith 5 (some .int), Cond.methodLink RX4 25 yX4_die, Cond.instanceMethod yX4_die, Cond.selects RX4 yX4_die yX4_die, Cond.code yX4_die cX4_die 3 (some .int), Cond.instanceMethod yX4_replaceDie, Cond.selects RX4 yX4_replaceDie yX4_replaceDie, Cond.code yX4_replaceDie cX4_replaceDie 6 (some .int), Cond.methodLink RX4 29 yX4_putDie, Cond.methodLink RL 31 yX6_mergeDies]
def wsL_law_r8 : List Cond := [Cond.instanceMethod yX6_mergeDies, Cond.selects RX6 yX6_mergeDies yX6_mergeDies, Cond.code yX6_mergeDies cX6_mergeDies 6 (some .int), Cond.methodLink RX6 59 yX6_isDie, Cond.static yX6_isDie, Cond.code yX6_isDie cX6_isDie 2 (some .boolean), Cond.methodLink RX6 63 yX6_specimens, Cond.instanceMethod yX6_specimens, Cond.selects RX6 yX6_specimens yX6_specimens, Cond.code yX6_specimens cX6_specimens 5 (some .int), Cond.methodLink RL 32 yX5_specimenCount, Cond.instanceMethod yX5_specimenCount, Cond.selects RX5 yX5_specimenCount yX5_specimenCount, Cond.code yX5_specimenCount cX5_specimenCount 1 (some .int), Cond.methodLink RL 36 yX6_specimenCount, Cond.instanceMethod yX6_specimenCount, Cond.selects RX6 yX6_specimenCount yX6_specimenCount, Cond.code yX6_specimenCount cX6_specimenCount 1 (some .int), Cond.methodLink RL 37 yX5_dieOf, Cond.instanceMethod yX5_dieOf, Cond.selects RX5 yX5_dieOf yX5_dieOf, Cond.code yX5_dieOf cX5_dieOf 3 (some .int), Cond.methodLink RL 41 yX6_dieOf, Cond.instanceMethod yX6_dieOf]
def wsL_law_r9 : List Cond := [Cond.selects RX6 yX6_dieOf yX6_dieOf, Cond.code yX6_dieOf cX6_dieOf 3 (some .int), Cond.methodLink RL 42 yX5_dieCount, Cond.instanceMethod yX5_dieCount, Cond.selects RX5 yX5_dieCount yX5_dieCount, Cond.code yX5_dieCount cX5_dieCount 2 (some .int), Cond.instanceMethod yX4_knownDies, Cond.selects RX4 yX4_knownDies yX4_knownDies, Cond.code yX4_knownDies cX4_knownDies 4 (some .int), Cond.methodLink RX4 36 yX4_struckWith, Cond.methodLink RL 45 yX6_dieCount, Cond.instanceMethod yX6_dieCount, Cond.selects RX6 yX6_dieCount yX6_dieCount, Cond.code yX6_dieCount cX6_dieCount 2 (some .int), Cond.methodLink RX6 67 yX6_known, Cond.instanceMethod yX6_known, Cond.selects RX6 yX6_known yX6_known, Cond.code yX6_known cX6_known 4 (some .int), Cond.methodLink RL 46 yX5_frequency, Cond.instanceMethod yX5_frequency, Cond.selects RX5 yX5_frequency yX5_frequency, Cond.code yX5_frequency cX5_frequency 3 (some .int), Cond.methodLink RL 49 yX6_frequency, Cond.instanceMethod yX6_frequency]
def wsL_law_r10 : List Cond := [Cond.selects RX6 yX6_frequency yX6_frequency, Cond.code yX6_frequency cX6_frequency 3 (some .int), Cond.methodLink RL 50 yX5_meanWearBits, Cond.instanceMethod yX5_meanWearBits, Cond.selects RX5 yX5_meanWearBits yX5_meanWearBits, Cond.code yX5_meanWearBits cX5_meanWearBits 4 (some .int), Cond.instanceMethod yX4_wearSum, Cond.selects RX4 yX4_wearSum yX4_wearSum, Cond.code yX4_wearSum cX4_wearSum 5 (some .int), Cond.methodLink RX4 33 yX4_wear, Cond.methodLink RX5 97 yX5_bitsOf, Cond.static yX5_bitsOf, Cond.code yX5_bitsOf cX5_bitsOf 4 (some .int), Cond.constantFloat RX5 156 (1258291200), Cond.methodLink RL 53 yX6_meanWearBits, Cond.instanceMethod yX6_meanWearBits, Cond.selects RX6 yX6_meanWearBits yX6_meanWearBits, Cond.code yX6_meanWearBits cX6_meanWearBits 6 (some .int), Cond.methodLink RX6 73 yX6_bits, Cond.static yX6_bits, Cond.code yX6_bits cX6_bits 9 (some .int), Cond.constantLong RX6 71 (2), Cond.methodLink RL 54 yX5_coupleCount, Cond.instanceMethod yX5_coupleCount]
def wsL_law_r11 : List Cond := [Cond.selects RX5 yX5_coupleCount yX5_coupleCount, Cond.code yX5_coupleCount cX5_coupleCount 1 (some .int), Cond.instanceMethod yX1_list, Cond.selects RX1 yX1_list yX1_list, Cond.code yX1_list cX1_list 4 none, Cond.methodLink RX1 30 yX1_markPairs, Cond.instanceMethod yX1_markPairs, Cond.selects RX1 yX1_markPairs yX1_markPairs, Cond.code yX1_markPairs cX1_markPairs 3 none, Cond.methodLink RX1 58 yJ7_fill_53178, Cond.static yJ7_fill_53178, Cond.initialized RJ7, Cond.code yJ7_fill_53178 cJ7_fill_53178 4 none, Cond.methodLink RX1 40 yX1_pairOf, Cond.static yX1_pairOf, Cond.code yX1_pairOf cX1_pairOf 2 (some .int), Cond.methodLink RX1 34 yX1_numberPairs, Cond.instanceMethod yX1_numberPairs, Cond.selects RX1 yX1_numberPairs yX1_numberPairs, Cond.code yX1_numberPairs cX1_numberPairs 2 none, Cond.methodLink RX1 64 yX1_enter, Cond.instanceMethod yX1_enter, Cond.selects RX1 yX1_enter yX1_enter, Cond.code yX1_enter cX1_enter 4 none]
def wsL_law_r12 : List Cond := [Cond.methodLink RX1 44 yX1_has, Cond.instanceMethod yX1_has, Cond.selects RX1 yX1_has yX1_has, Cond.code yX1_has cX1_has 2 (some .boolean), Cond.methodLink RX1 52 yX1_spanWear, Cond.instanceMethod yX1_spanWear, Cond.selects RX1 yX1_spanWear yX1_spanWear, Cond.code yX1_spanWear cX1_spanWear 4 none, Cond.methodLink RX1 68 Lib.Math.min.name, Cond.static Lib.Math.min.name, Cond.initialized "java/lang/Math", Cond.code Lib.Math.min.name Lib.Math.min.code 2 (some .int), Cond.methodLink RX1 73 Lib.Math.max.name, Cond.static Lib.Math.max.name, Cond.code Lib.Math.max.name Lib.Math.max.code 2 (some .int), Cond.methodLink RL 57 yX6_coupleCount, Cond.instanceMethod yX6_coupleCount, Cond.selects RX6 yX6_coupleCount yX6_coupleCount, Cond.code yX6_coupleCount cX6_coupleCount 1 (some .int), Cond.fieldLink RX6 76 "DieStudyModel" "couples" "I", Cond.methodLink RX6 82 yX6_finds, Cond.instanceMethod yX6_finds, Cond.selects RX6 yX6_finds yX6_finds, Cond.code yX6_finds cX6_finds 7 none]
def wsL_law_r13 : List Cond := [Cond.methodLink RX6 79 yX6_isCouple, Cond.instanceMethod yX6_isCouple, Cond.selects RX6 yX6_isCouple yX6_isCouple, Cond.code yX6_isCouple cX6_isCouple 4 (some .boolean), Cond.methodLink RL 58 yX5_coupleAt, Cond.instanceMethod yX5_coupleAt, Cond.selects RX5 yX5_coupleAt yX5_coupleAt, Cond.code yX5_coupleAt cX5_coupleAt 3 (some .int), Cond.methodLink RX5 105 yX5_errorOfPlace, Cond.instanceMethod yX5_errorOfPlace, Cond.selects RX5 yX5_errorOfPlace yX5_errorOfPlace, Cond.code yX5_errorOfPlace cX5_errorOfPlace 2 (some .int), Cond.methodLink RL 61 yX6_coupleAt, Cond.instanceMethod yX6_coupleAt, Cond.selects RX6 yX6_coupleAt yX6_coupleAt, Cond.code yX6_coupleAt cX6_coupleAt 2 (some .int), Cond.methodLink RL 62 yX5_componentCount, Cond.instanceMethod yX5_componentCount, Cond.selects RX5 yX5_componentCount yX5_componentCount, Cond.code yX5_componentCount cX5_componentCount 1 (some .int), Cond.instanceMethod yX3_connect, Cond.selects RX3 yX3_connect yX3_connect, Cond.code yX3_connect cX3_connect 4 none, Cond.methodLink RX3 22 yX3_enterDies]
def wsL_law_r14 : List Cond := [Cond.instanceMethod yX3_enterDies, Cond.selects RX3 yX3_enterDies yX3_enterDies, Cond.code yX3_enterDies cX3_enterDies 3 none, Cond.methodLink RX3 50 yJ7_fill_53178, Cond.methodLink RX3 31 yX3_obverseOf, Cond.static yX3_obverseOf, Cond.code yX3_obverseOf cX3_obverseOf 2 (some .int), Cond.methodLink RX3 46 yX3_vertexOf, Cond.static yX3_vertexOf, Cond.code yX3_vertexOf cX3_vertexOf 2 (some .int), Cond.methodLink RX3 56 yX3_enterDie, Cond.instanceMethod yX3_enterDie, Cond.selects RX3 yX3_enterDie yX3_enterDie, Cond.code yX3_enterDie cX3_enterDie 2 none, Cond.methodLink RX3 35 yX3_reverseOf, Cond.static yX3_reverseOf, Cond.code yX3_reverseOf cX3_reverseOf 2 (some .int), Cond.methodLink RX3 38 yX3_join, Cond.instanceMethod yX3_join, Cond.selects RX3 yX3_join yX3_join, Cond.code yX3_join cX3_join 6 none, Cond.methodLink RL 65 yX6_componentCount, Cond.instanceMethod yX6_componentCount, Cond.selects RX6 yX6_componentCount yX6_componentCount]
def wsL_law_r15 : List Cond := [Cond.code yX6_componentCount cX6_componentCount 1 (some .int), Cond.methodLink RX6 85 yX6_nets, Cond.instanceMethod yX6_nets, Cond.selects RX6 yX6_nets yX6_nets, Cond.code yX6_nets cX6_nets 6 (some .int), Cond.methodLink RL 66 yX5_componentSize, Cond.instanceMethod yX5_componentSize, Cond.selects RX5 yX5_componentSize yX5_componentSize, Cond.code yX5_componentSize cX5_componentSize 4 (some .int), Cond.instanceMethod yX3_diesAround, Cond.selects RX3 yX3_diesAround yX3_diesAround, Cond.code yX3_diesAround cX3_diesAround 6 (some .int), Cond.methodLink RL 69 yX6_componentSize, Cond.instanceMethod yX6_componentSize, Cond.selects RX6 yX6_componentSize yX6_componentSize, Cond.code yX6_componentSize cX6_componentSize 5 (some .int), Cond.methodLink RL 70 yX5_cycleRank, Cond.instanceMethod yX5_cycleRank, Cond.selects RX5 yX5_cycleRank yX5_cycleRank, Cond.code yX5_cycleRank cX5_cycleRank 1 (some .int), Cond.methodLink RL 73 yX6_cycleRank, Cond.instanceMethod yX6_cycleRank, Cond.selects RX6 yX6_cycleRank yX6_cycleRank, Cond.code yX6_cycleRank cX6_cycleRank 1 (some .int)]
def wsL_law_r16 : List Cond := [Cond.methodLink RL 74 yX5_bridgeCount, Cond.instanceMethod yX5_bridgeCount, Cond.selects RX5 yX5_bridgeCount yX5_bridgeCount, Cond.code yX5_bridgeCount cX5_bridgeCount 3 (some .int), Cond.instanceMethod yX3_fallsApartWithout, Cond.selects RX3 yX3_fallsApartWithout yX3_fallsApartWithout, Cond.code yX3_fallsApartWithout cX3_fallsApartWithout 3 (some .boolean), Cond.methodLink RX3 60 yX3_connect, Cond.methodLink RL 77 yX6_bridgeCount, Cond.instanceMethod yX6_bridgeCount, Cond.selects RX6 yX6_bridgeCount yX6_bridgeCount, Cond.code yX6_bridgeCount cX6_bridgeCount 4 (some .int), Cond.methodLink RL 78 yX5_isBridge, Cond.instanceMethod yX5_isBridge, Cond.selects RX5 yX5_isBridge yX5_isBridge, Cond.code yX5_isBridge cX5_isBridge 3 (some .int), Cond.methodLink RL 81 yX6_isBridge, Cond.instanceMethod yX6_isBridge, Cond.selects RX6 yX6_isBridge yX6_isBridge, Cond.code yX6_isBridge cX6_isBridge 2 (some .int), Cond.methodLink RL 82 yX5_compareCouples, Cond.instanceMethod yX5_compareCouples, Cond.selects RX5 yX5_compareCouples yX5_compareCouples, Cond.code yX5_compareCouples cX5_compareCouples 3 (some .int)]
def wsL_law_r17 : List Cond := [Cond.instanceMethod yX1_isEarlier, Cond.selects RX1 yX1_isEarlier yX1_isEarlier, Cond.code yX1_isEarlier cX1_isEarlier 3 (some .boolean), Cond.methodLink RX1 76 yX1_isEarlierBy, Cond.instanceMethod yX1_isEarlierBy, Cond.selects RX1 yX1_isEarlierBy yX1_isEarlierBy, Cond.code yX1_isEarlierBy cX1_isEarlierBy 4 (some .boolean), Cond.methodLink RL 85 yX6_compareCouples, Cond.instanceMethod yX6_compareCouples, Cond.selects RX6 yX6_compareCouples yX6_compareCouples, Cond.code yX6_compareCouples cX6_compareCouples 3 (some .int), Cond.methodLink RX6 91 yX6_isEarlier, Cond.instanceMethod yX6_isEarlier, Cond.selects RX6 yX6_isEarlier yX6_isEarlier, Cond.code yX6_isEarlier cX6_isEarlier 3 (some .boolean), Cond.methodLink RX6 88 yX6_isBy, Cond.instanceMethod yX6_isBy, Cond.selects RX6 yX6_isBy yX6_isBy, Cond.code yX6_isBy cX6_isBy 4 (some .boolean), Cond.methodLink RL 86 yX5_isConsistent, Cond.instanceMethod yX5_isConsistent, Cond.selects RX5 yX5_isConsistent yX5_isConsistent, Cond.code yX5_isConsistent cX5_isConsistent 1 (some .int), Cond.instanceMethod yX0_arrange]
def wsL_law_r18 : List Cond := [Cond.selects RX0 yX0_arrange yX0_arrange, Cond.code yX0_arrange cX0_arrange 4 (some .boolean), Cond.methodLink RX0 21 yX0_countEarlier, Cond.instanceMethod yX0_countEarlier, Cond.selects RX0 yX0_countEarlier yX0_countEarlier, Cond.code yX0_countEarlier cX0_countEarlier 4 none, Cond.methodLink RX0 39 yJ7_fill_53178, Cond.methodLink RX0 31 yX0_lowestThatWaitsForNone, Cond.instanceMethod yX0_lowestThatWaitsForNone, Cond.selects RX0 yX0_lowestThatWaitsForNone yX0_lowestThatWaitsForNone, Cond.code yX0_lowestThatWaitsForNone cX0_lowestThatWaitsForNone 3 (some .int), Cond.methodLink RX0 35 yX0_releaseLater, Cond.instanceMethod yX0_releaseLater, Cond.selects RX0 yX0_releaseLater yX0_releaseLater, Cond.code yX0_releaseLater cX0_releaseLater 4 none, Cond.methodLink RX0 49 Lib.Math.max.name, Cond.methodLink RL 89 yX6_isConsistent, Cond.instanceMethod yX6_isConsistent, Cond.selects RX6 yX6_isConsistent yX6_isConsistent, Cond.code yX6_isConsistent cX6_isConsistent 1 (some .int), Cond.methodLink RX6 94 yX6_places, Cond.instanceMethod yX6_places, Cond.selects RX6 yX6_places yX6_places, Cond.code yX6_places cX6_places 6 (some .boolean)]
def wsL_law_r19 : List Cond := [Cond.methodLink RL 90 yX5_coupleInOrder, Cond.instanceMethod yX5_coupleInOrder, Cond.selects RX5 yX5_coupleInOrder yX5_coupleInOrder, Cond.code yX5_coupleInOrder cX5_coupleInOrder 3 (some .int), Cond.methodLink RL 93 yX6_coupleInOrder, Cond.instanceMethod yX6_coupleInOrder, Cond.selects RX6 yX6_coupleInOrder yX6_coupleInOrder, Cond.code yX6_coupleInOrder cX6_coupleInOrder 2 (some .int), Cond.methodLink RL 94 yX5_generation, Cond.instanceMethod yX5_generation, Cond.selects RX5 yX5_generation yX5_generation, Cond.code yX5_generation cX5_generation 3 (some .int), Cond.methodLink RL 97 yX6_generation, Cond.instanceMethod yX6_generation, Cond.selects RX6 yX6_generation yX6_generation, Cond.code yX6_generation cX6_generation 2 (some .int), Cond.methodLink RL 98 yX5_singletons, Cond.instanceMethod yX5_singletons, Cond.selects RX5 yX5_singletons yX5_singletons, Cond.code yX5_singletons cX5_singletons 2 (some .int), Cond.instanceMethod yX4_diesStruckOnce, Cond.selects RX4 yX4_diesStruckOnce yX4_diesStruckOnce, Cond.code yX4_diesStruckOnce cX4_diesStruckOnce 4 (some .int), Cond.methodLink RL 101 yX6_singletons]
def wsL_law_r20 : List Cond := [Cond.instanceMethod yX6_singletons, Cond.selects RX6 yX6_singletons yX6_singletons, Cond.code yX6_singletons cX6_singletons 2 (some .int), Cond.methodLink RX6 98 yX6_single, Cond.instanceMethod yX6_single, Cond.selects RX6 yX6_single yX6_single, Cond.code yX6_single cX6_single 4 (some .int), Cond.methodLink RL 102 yX5_coverageEstimate, Cond.instanceMethod yX5_coverageEstimate, Cond.selects RX5 yX5_coverageEstimate yX5_coverageEstimate, Cond.code yX5_coverageEstimate cX5_coverageEstimate 4 (some .int), Cond.methodLink RL 105 yX6_coverageEstimate, Cond.instanceMethod yX6_coverageEstimate, Cond.selects RX6 yX6_coverageEstimate yX6_coverageEstimate, Cond.code yX6_coverageEstimate cX6_coverageEstimate 4 (some .int), Cond.methodLink RL 106 yX5_frequencyEstimate, Cond.instanceMethod yX5_frequencyEstimate, Cond.selects RX5 yX5_frequencyEstimate yX5_frequencyEstimate, Cond.code yX5_frequencyEstimate cX5_frequencyEstimate 5 (some .int), Cond.methodLink RX5 147 yX5_divisorOfFrequencyEstimate, Cond.static yX5_divisorOfFrequencyEstimate, Cond.code yX5_divisorOfFrequencyEstimate cX5_divisorOfFrequencyEstimate 2 (some .int), Cond.methodLink RL 109 yX6_frequencyEstimate, Cond.instanceMethod yX6_frequencyEstimate]
def wsL_law_r21 : List Cond := [Cond.selects RX6 yX6_frequencyEstimate yX6_frequencyEstimate, Cond.code yX6_frequencyEstimate cX6_frequencyEstimate 5 (some .int), Cond.constant RX6 101 (1000000), Cond.methodLink RL 110 yX5_undo, Cond.instanceMethod yX5_undo, Cond.selects RX5 yX5_undo yX5_undo, Cond.code yX5_undo cX5_undo 1 (some .int), Cond.instanceMethod yX2_restore, Cond.selects RX2 yX2_restore yX2_restore, Cond.code yX2_restore cX2_restore 2 none, Cond.methodLink RL 113 yX6_undo, Cond.instanceMethod yX6_undo, Cond.selects RX6 yX6_undo yX6_undo, Cond.code yX6_undo cX6_undo 2 (some .int)]
def wsL_law : List Cond := (wsL_law_r1 ++ (wsL_law_r2 ++ (wsL_law_r3 ++ (wsL_law_r4 ++ (wsL_law_r5 ++ (wsL_law_r6 ++ (wsL_law_r7 ++ (wsL_law_r8 ++ (wsL_law_r9 ++ (wsL_law_r10 ++ (wsL_law_r11 ++ (wsL_law_r12 ++ (wsL_law_r13 ++ (wsL_law_r14 ++ (wsL_law_r15 ++ (wsL_law_r16 ++ (wsL_law_r17 ++ (wsL_law_r18 ++ (wsL_law_r19 ++ (wsL_law_r20 ++ wsL_law_r21)))))))))))))))))))) ++ wsX50 ++ wsX60 ++ wsX40 ++ wsX20 ++ wsX10 ++ wsX30 ++ wsX00 ++ ([] : List Cond)
theorem inlX0 : ∀ w ∈ wsX00, w ∈ wsL_law := fun _ h => List.mem_append_left _ (List.mem_append_right _ h)
theorem inlX1 : ∀ w ∈ wsX10, w ∈ wsL_law := fun _ h => List.mem_append_left _ (List.mem_append_left _ (List.mem_append_left _ (List.mem_append_right _ h)))
theorem inlX2 : ∀ w ∈ wsX20, w ∈ wsL_law := fun _ h => List.mem_append_left _ (List.mem_append_left _ (List.mem_append_left _ (List.mem_append_left _ (List.mem_append_right _ h))))
theorem inlX3 : ∀ w ∈ wsX30, w ∈ wsL_law := fun _ h => List.mem_append_left _ (List.mem_append_left _ (List.mem_append_right _ h))
theorem inlX4 : ∀ w ∈ wsX40, w ∈ wsL_law := fun _ h => List.mem_append_left _ (List.mem_append_left _ (List.mem_append_left _ (List.mem_append_left _ (List.mem_append_left _ (List.mem_append_right _ h)))))
theorem inlX5 : ∀ w ∈ wsX50, w ∈ wsL_law := fun _ h => List.mem_append_left _ (List.mem_append_left _ (List.mem_append_left _ (List.mem_append_left _ (List.mem_append_left _ (List.mem_append_left _ (List.mem_append_left _ (List.mem_append_right _ h)))))))
theorem inlX6 : ∀ w ∈ wsX60, w ∈ wsL_law := fun _ h => List.mem_append_left _ (List.mem_append_left _ (List.mem_append_left _ (List.mem_append_left _ (List.mem_append_left _ (List.mem_append_left _ (List.mem_append_right _ h))))))
abbrev vwCl : List vw_C := [(RX0, TX0, 3), (RX1, TX1, 5), (RX2, TX2, 4), (RX3, TX3, 3), (RX4, TX4, 2), (RX5, TX5, 5), (RX6, TX6, 12)]
