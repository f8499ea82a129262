/-! ===== BEGIN words of one list among another's, by their places ===== -/
theorem goodIn_r {big : List Cond} (ws : List Cond) (ps : List Nat) (hp : ws = ps.filterMap (fun i => big[i]?)) (h : ws.all goodWord = true) : GoodIn big ws := by
  intro w hw
  have h1 := List.all_eq_true.mp h w hw
  rw [hp] at hw
  obtain ⟨i, -, hi⟩ := List.mem_filterMap.mp hw
  have hm : w ∈ big := by first | exact List.mem_of_getElem? hi | exact List.getElem?_mem hi
  exact ⟨hm, good_of_word h1⟩
theorem goodIn_app {big a b : List Cond} (ha : GoodIn big a) (hb : GoodIn big b) : GoodIn big (a ++ b) := fun w h => (List.mem_append.mp h).elim (ha w) (hb w)
theorem goodIn_ca {big a b : List Cond} {c : Cond} (ha : GoodIn big (c :: a)) (hb : GoodIn big b) : GoodIn big (c :: (a ++ b)) := fun w h => (List.mem_cons.mp h).elim (fun e => ha w (List.mem_cons.mpr (Or.inl e))) (fun h => (List.mem_append.mp h).elim (fun h => ha w (List.mem_cons.mpr (Or.inr h))) (hb w))
theorem goodIn_sub {big ws : List Cond} (hm : ∀ w ∈ ws, w ∈ big) (h : ws.all goodWord = true) : GoodIn big ws := fun w hw => ⟨hm w hw, good_of_word (List.all_eq_true.mp h w hw)⟩
/-! ===== END ===== -/

/-! ===== BEGIN printed: names, fields, word lists, decode rows ===== -/
def RX0 : String := "HardBench$Census"
def TX0 : u_T := fun k => match k with
  | 0 => ("HardBench$Census", "floats", "LHardBench$Floats;", true)
  | 1 => ("HardBench$Census", "value", "LHardBench$Value;", true)
  | 2 => ("HardBench$Census", "taken", "[I", true)
  | 3 => ("HardBench$Census", "sorts", "[I", true)
  | 4 => ("HardBench$Census", "hardnesses", "[I", true)
  | 5 => ("HardBench$Census", "blockGreatest", "[I", true)
  | _ => ("HardBench$Census", "blockHave", "[I", true)
def tyX0 : Nat → FieldType := fun k => match k with
  | 0 => .object "HardBench$Floats"
  | 1 => .object "HardBench$Value"
  | 2 => .array .int
  | 3 => .array .int
  | 4 => .array .int
  | 5 => .array .int
  | _ => .array .int
abbrev wsX00 : List Cond := u_ws RX0 TX0 7
theorem nmX0 : ∀ a, a < 7 → ∀ b, b < 7 → a ≠ b → (TX0 a).2.1 ≠ (TX0 b).2.1 := by decide +kernel
theorem tyX0_ok : ∀ k, k < 7 → parseFieldDescriptor (TX0 k).2.2.1 = some (tyX0 k) := by decide +kernel
abbrev cX0_init : ByteArray := prog_2_method_1_code
def yX0_init : MethodName := ⟨RX0, "<init>", "(LHardBench$Floats;LHardBench$Value;)V"⟩
abbrev cX0_forget : ByteArray := prog_2_method_2_code
def yX0_forget : MethodName := ⟨RX0, "forget", "()V"⟩
abbrev cX0_take : ByteArray := prog_2_method_3_code
def yX0_take : MethodName := ⟨RX0, "take", "(I)V"⟩
abbrev cX0_ofSort : ByteArray := prog_2_method_4_code
def yX0_ofSort : MethodName := ⟨RX0, "ofSort", "(II)I"⟩
abbrev cX0_ofHardness : ByteArray := prog_2_method_5_code
def yX0_ofHardness : MethodName := ⟨RX0, "ofHardness", "(II)I"⟩
abbrev cX0_hardestCode : ByteArray := prog_2_method_6_code
def yX0_hardestCode : MethodName := ⟨RX0, "hardestCode", "(II)I"⟩
abbrev cX0_inBlock : ByteArray := prog_2_method_7_code
def yX0_inBlock : MethodName := ⟨RX0, "inBlock", "(III)I"⟩
abbrev cX0_greatestHardness : ByteArray := prog_2_method_8_code
def yX0_greatestHardness : MethodName := ⟨RX0, "greatestHardness", "(I)I"⟩
abbrev cX0_addToBlock : ByteArray := prog_2_method_9_code
def yX0_addToBlock : MethodName := ⟨RX0, "addToBlock", "(II)V"⟩
def RX1 : String := "HardBench$Floats"
def TX1 : u_T := fun k => match k with
  | 0 => ("HardBench$Floats", "e", "I", false)
  | 1 => ("HardBench$Floats", "f", "I", false)
  | 2 => ("HardBench$Floats", "bias", "I", false)
  | 3 => ("HardBench$Floats", "codes", "I", false)
  | 4 => ("HardBench$Floats", "signBit", "I", false)
  | _ => ("HardBench$Floats", "endless", "I", false)
def tyX1 : Nat → FieldType := fun k => match k with
  | 0 => .int
  | 1 => .int
  | 2 => .int
  | 3 => .int
  | 4 => .int
  | _ => .int
abbrev wsX10 : List Cond := u_ws RX1 TX1 6
theorem nmX1 : ∀ a, a < 6 → ∀ b, b < 6 → a ≠ b → (TX1 a).2.1 ≠ (TX1 b).2.1 := by decide +kernel
theorem tyX1_ok : ∀ k, k < 6 → parseFieldDescriptor (TX1 k).2.2.1 = some (tyX1 k) := by decide +kernel
abbrev cX1_init : ByteArray := prog_3_method_1_code
def yX1_init : MethodName := ⟨RX1, "<init>", "()V"⟩
abbrev cX1_become : ByteArray := prog_3_method_2_code
def yX1_become : MethodName := ⟨RX1, "become", "(II)V"⟩
abbrev cX1_isCode : ByteArray := prog_3_method_3_code
def yX1_isCode : MethodName := ⟨RX1, "isCode", "(I)Z"⟩
abbrev cX1_isPower : ByteArray := prog_3_method_4_code
def yX1_isPower : MethodName := ⟨RX1, "isPower", "(I)Z"⟩
abbrev cX1_isZ : ByteArray := prog_3_method_5_code
def yX1_isZ : MethodName := ⟨RX1, "isZ", "(I)Z"⟩
abbrev cX1_zs : ByteArray := prog_3_method_6_code
def yX1_zs : MethodName := ⟨RX1, "zs", "()I"⟩
abbrev cX1_codeOf : ByteArray := prog_3_method_7_code
def yX1_codeOf : MethodName := ⟨RX1, "codeOf", "(II)I"⟩
abbrev cX1_none : ByteArray := prog_3_method_8_code
def yX1_none : MethodName := ⟨RX1, "none", "()I"⟩
abbrev cX1_greatestPlain : ByteArray := prog_3_method_9_code
def yX1_greatestPlain : MethodName := ⟨RX1, "greatestPlain", "()I"⟩
abbrev cX1_amount : ByteArray := prog_3_method_10_code
def yX1_amount : MethodName := ⟨RX1, "amount", "(I)I"⟩
abbrev cX1_isBelow : ByteArray := prog_3_method_11_code
def yX1_isBelow : MethodName := ⟨RX1, "isBelow", "(I)Z"⟩
abbrev cX1_isPlain : ByteArray := prog_3_method_12_code
def yX1_isPlain : MethodName := ⟨RX1, "isPlain", "(I)Z"⟩
abbrev cX1_isZero : ByteArray := prog_3_method_13_code
def yX1_isZero : MethodName := ⟨RX1, "isZero", "(I)Z"⟩
abbrev cX1_isNone : ByteArray := prog_3_method_14_code
def yX1_isNone : MethodName := ⟨RX1, "isNone", "(I)Z"⟩
abbrev cX1_kindOf : ByteArray := prog_3_method_15_code
def yX1_kindOf : MethodName := ⟨RX1, "kindOf", "(I)I"⟩
abbrev cX1_powerBits : ByteArray := prog_3_method_16_code
def yX1_powerBits : MethodName := ⟨RX1, "powerBits", "(I)I"⟩
abbrev cX1_figureBits : ByteArray := prog_3_method_17_code
def yX1_figureBits : MethodName := ⟨RX1, "figureBits", "(I)I"⟩
abbrev cX1_factor : ByteArray := prog_3_method_18_code
def yX1_factor : MethodName := ⟨RX1, "factor", "(I)I"⟩
abbrev cX1_power : ByteArray := prog_3_method_19_code
def yX1_power : MethodName := ⟨RX1, "power", "(I)I"⟩
abbrev cX1_oddFactor : ByteArray := prog_3_method_20_code
def yX1_oddFactor : MethodName := ⟨RX1, "oddFactor", "(I)I"⟩
abbrev cX1_powerOfOddFactor : ByteArray := prog_3_method_21_code
def yX1_powerOfOddFactor : MethodName := ⟨RX1, "powerOfOddFactor", "(I)I"⟩
abbrev cX1_stepsFromZero : ByteArray := prog_3_method_22_code
def yX1_stepsFromZero : MethodName := ⟨RX1, "stepsFromZero", "(I)I"⟩
abbrev cX1_codeAbove : ByteArray := prog_3_method_23_code
def yX1_codeAbove : MethodName := ⟨RX1, "codeAbove", "(I)I"⟩
def RX2 : String := "HardBench$Lines"
def TX2 : u_T := fun k => match k with
  | 0 => ("HardBench$Lines", "floats", "LHardBench$Floats;", true)
  | 1 => ("HardBench$Lines", "value", "LHardBench$Value;", true)
  | 2 => ("HardBench$Lines", "due", "[I", true)
  | 3 => ("HardBench$Lines", "firsts", "[I", true)
  | 4 => ("HardBench$Lines", "starts", "[I", true)
  | 5 => ("HardBench$Lines", "slopes", "[I", true)
  | 6 => ("HardBench$Lines", "parts", "I", false)
  | 7 => ("HardBench$Lines", "s", "I", false)
  | 8 => ("HardBench$Lines", "least", "J", false)
  | _ => ("HardBench$Lines", "greatest", "J", false)
def tyX2 : Nat → FieldType := fun k => match k with
  | 0 => .object "HardBench$Floats"
  | 1 => .object "HardBench$Value"
  | 2 => .array .int
  | 3 => .array .int
  | 4 => .array .int
  | 5 => .array .int
  | 6 => .int
  | 7 => .int
  | 8 => .long
  | _ => .long
abbrev wsX20 : List Cond := u_ws RX2 TX2 10
theorem nmX2 : ∀ a, a < 10 → ∀ b, b < 10 → a ≠ b → (TX2 a).2.1 ≠ (TX2 b).2.1 := by decide +kernel
theorem tyX2_ok : ∀ k, k < 10 → parseFieldDescriptor (TX2 k).2.2.1 = some (tyX2 k) := by decide +kernel
abbrev cX2_init : ByteArray := prog_4_method_1_code
def yX2_init : MethodName := ⟨RX2, "<init>", "(LHardBench$Floats;LHardBench$Value;)V"⟩
abbrev cX2_onLine : ByteArray := prog_4_method_2_code
def yX2_onLine : MethodName := ⟨RX2, "onLine", "(JJJI)J"⟩
abbrev cX2_forget : ByteArray := prog_4_method_3_code
def yX2_forget : MethodName := ⟨RX2, "forget", "()V"⟩
abbrev cX2_parts : ByteArray := prog_4_method_4_code
def yX2_parts : MethodName := ⟨RX2, "parts", "()I"⟩
abbrev cX2_firstZ : ByteArray := prog_4_method_5_code
def yX2_firstZ : MethodName := ⟨RX2, "firstZ", "(I)I"⟩
abbrev cX2_lastZ : ByteArray := prog_4_method_6_code
def yX2_lastZ : MethodName := ⟨RX2, "lastZ", "(I)I"⟩
abbrev cX2_lineStart : ByteArray := prog_4_method_7_code
def yX2_lineStart : MethodName := ⟨RX2, "lineStart", "(I)I"⟩
abbrev cX2_lineSlope : ByteArray := prog_4_method_8_code
def yX2_lineSlope : MethodName := ⟨RX2, "lineSlope", "(I)I"⟩
abbrev cX2_toldFor : ByteArray := prog_4_method_9_code
def yX2_toldFor : MethodName := ⟨RX2, "toldFor", "(I)I"⟩
abbrev cX2_readDue : ByteArray := prog_4_method_10_code
def yX2_readDue : MethodName := ⟨RX2, "readDue", "(III)V"⟩
abbrev cX2_cutParts : ByteArray := prog_4_method_11_code
def yX2_cutParts : MethodName := ⟨RX2, "cutParts", "(II)V"⟩
abbrev cX2_widen : ByteArray := prog_4_method_12_code
def yX2_widen : MethodName := ⟨RX2, "widen", "(I)V"⟩
abbrev cX2_narrow : ByteArray := prog_4_method_13_code
def yX2_narrow : MethodName := ⟨RX2, "narrow", "(II)Z"⟩
abbrev cX2_floorBy : ByteArray := prog_4_method_14_code
def yX2_floorBy : MethodName := ⟨RX2, "floorBy", "(JJ)J"⟩
abbrev cX2_closePart : ByteArray := prog_4_method_15_code
def yX2_closePart : MethodName := ⟨RX2, "closePart", "(II)V"⟩
abbrev cX2_leastStart : ByteArray := prog_4_method_16_code
def yX2_leastStart : MethodName := ⟨RX2, "leastStart", "(IJ)J"⟩
def RX3 : String := "HardBench$Place"
def TX3 : u_T := fun k => match k with
  | 0 => ("HardBench$Place", "floats", "LHardBench$Floats;", true)
  | 1 => ("HardBench$Place", "lower", "I", false)
  | 2 => ("HardBench$Place", "way", "I", false)
  | 3 => ("HardBench$Place", "more", "Z", false)
  | _ => ("HardBench$Place", "beyond", "Z", false)
def tyX3 : Nat → FieldType := fun k => match k with
  | 0 => .object "HardBench$Floats"
  | 1 => .int
  | 2 => .int
  | 3 => .boolean
  | _ => .boolean
abbrev wsX30 : List Cond := u_ws RX3 TX3 5
theorem nmX3 : ∀ a, a < 5 → ∀ b, b < 5 → a ≠ b → (TX3 a).2.1 ≠ (TX3 b).2.1 := by decide +kernel
theorem tyX3_ok : ∀ k, k < 5 → parseFieldDescriptor (TX3 k).2.2.1 = some (tyX3 k) := by decide +kernel
abbrev cX3_init : ByteArray := prog_5_method_1_code
def yX3_init : MethodName := ⟨RX3, "<init>", "(LHardBench$Floats;)V"⟩
abbrev cX3_lay : ByteArray := prog_5_method_2_code
def yX3_lay : MethodName := ⟨RX3, "lay", "(JIZ)V"⟩
abbrev cX3_sortLaid : ByteArray := prog_5_method_3_code
def yX3_sortLaid : MethodName := ⟨RX3, "sortLaid", "()I"⟩
abbrev cX3_figuresLaid : ByteArray := prog_5_method_4_code
def yX3_figuresLaid : MethodName := ⟨RX3, "figuresLaid", "()I"⟩
abbrev cX3_rounded : ByteArray := prog_5_method_5_code
def yX3_rounded : MethodName := ⟨RX3, "rounded", "(ZI)I"⟩
abbrev cX3_takesUpper : ByteArray := prog_5_method_6_code
def yX3_takesUpper : MethodName := ⟨RX3, "takesUpper", "(I)Z"⟩
abbrev cX3_shifted : ByteArray := prog_5_method_7_code
def yX3_shifted : MethodName := ⟨RX3, "shifted", "(JI)J"⟩
def RX4 : String := "HardBench$Rows"
def TX4 : u_T := fun k => match k with
  | _ => ("", "", "", false)
def tyX4 : Nat → FieldType := fun k => match k with
  | _ => .int
abbrev wsX40 : List Cond := u_ws RX4 TX4 0
theorem nmX4 : ∀ a, a < 0 → ∀ b, b < 0 → a ≠ b → (TX4 a).2.1 ≠ (TX4 b).2.1 := by decide +kernel
theorem tyX4_ok : ∀ k, k < 0 → parseFieldDescriptor (TX4 k).2.2.1 = some (tyX4 k) := by decide +kernel
abbrev cX4_at : ByteArray := prog_6_method_2_code
def yX4_at : MethodName := ⟨RX4, "at", "([II)I"⟩
abbrev cX4_put : ByteArray := prog_6_method_3_code
def yX4_put : MethodName := ⟨RX4, "put", "([III)V"⟩
abbrev cX4_addOne : ByteArray := prog_6_method_4_code
def yX4_addOne : MethodName := ⟨RX4, "addOne", "([II)V"⟩
def RX5 : String := "HardBench$Stretches"
def TX5 : u_T := fun k => match k with
  | 0 => ("HardBench$Stretches", "floats", "LHardBench$Floats;", true)
  | 1 => ("HardBench$Stretches", "value", "LHardBench$Value;", true)
  | 2 => ("HardBench$Stretches", "totals", "[I", true)
  | _ => ("HardBench$Stretches", "begun", "[I", true)
def tyX5 : Nat → FieldType := fun k => match k with
  | 0 => .object "HardBench$Floats"
  | 1 => .object "HardBench$Value"
  | 2 => .array .int
  | _ => .array .int
abbrev wsX50 : List Cond := u_ws RX5 TX5 4
theorem nmX5 : ∀ a, a < 4 → ∀ b, b < 4 → a ≠ b → (TX5 a).2.1 ≠ (TX5 b).2.1 := by decide +kernel
theorem tyX5_ok : ∀ k, k < 4 → parseFieldDescriptor (TX5 k).2.2.1 = some (tyX5 k) := by decide +kernel
abbrev cX5_init : ByteArray := prog_7_method_1_code
def yX5_init : MethodName := ⟨RX5, "<init>", "(LHardBench$Floats;LHardBench$Value;)V"⟩
abbrev cX5_forget : ByteArray := prog_7_method_2_code
def yX5_forget : MethodName := ⟨RX5, "forget", "()V"⟩
abbrev cX5_total : ByteArray := prog_7_method_3_code
def yX5_total : MethodName := ⟨RX5, "total", "(II)I"⟩
abbrev cX5_take : ByteArray := prog_7_method_4_code
def yX5_take : MethodName := ⟨RX5, "take", "(II)V"⟩
abbrev cX5_firstCode : ByteArray := prog_7_method_5_code
def yX5_firstCode : MethodName := ⟨RX5, "firstCode", "(III)I"⟩
def RX6 : String := "HardBench$Value"
def TX6 : u_T := fun k => match k with
  | 0 => ("HardBench$Value", "floats", "LHardBench$Floats;", true)
  | 1 => ("HardBench$Value", "place", "LHardBench$Place;", true)
  | 2 => ("HardBench$Value", "m", "J", false)
  | 3 => ("HardBench$Value", "x", "I", false)
  | 4 => ("HardBench$Value", "more", "Z", false)
  | 5 => ("HardBench$Value", "laid", "Z", false)
  | 6 => ("HardBench$Value", "below", "Z", false)
  | 7 => ("HardBench$Value", "settled", "I", false)
  | _ => ("HardBench$Value", "sort", "I", false)
def tyX6 : Nat → FieldType := fun k => match k with
  | 0 => .object "HardBench$Floats"
  | 1 => .object "HardBench$Place"
  | 2 => .long
  | 3 => .int
  | 4 => .boolean
  | 5 => .boolean
  | 6 => .boolean
  | 7 => .int
  | _ => .int
abbrev wsX60 : List Cond := u_ws RX6 TX6 9
theorem nmX6 : ∀ a, a < 9 → ∀ b, b < 9 → a ≠ b → (TX6 a).2.1 ≠ (TX6 b).2.1 := by decide +kernel
theorem tyX6_ok : ∀ k, k < 9 → parseFieldDescriptor (TX6 k).2.2.1 = some (tyX6 k) := by decide +kernel
abbrev cX6_init : ByteArray := prog_8_method_1_code
def yX6_init : MethodName := ⟨RX6, "<init>", "(LHardBench$Floats;)V"⟩
abbrev cX6_resultAt : ByteArray := prog_8_method_2_code
def yX6_resultAt : MethodName := ⟨RX6, "resultAt", "(III)I"⟩
abbrev cX6_sortRead : ByteArray := prog_8_method_3_code
def yX6_sortRead : MethodName := ⟨RX6, "sortRead", "()I"⟩
abbrev cX6_figuresRead : ByteArray := prog_8_method_4_code
def yX6_figuresRead : MethodName := ⟨RX6, "figuresRead", "()I"⟩
abbrev cX6_hardnessRead : ByteArray := prog_8_method_5_code
def yX6_hardnessRead : MethodName := ⟨RX6, "hardnessRead", "()I"⟩
abbrev cX6_read : ByteArray := prog_8_method_6_code
def yX6_read : MethodName := ⟨RX6, "read", "(II)V"⟩
abbrev cX6_settledResult : ByteArray := prog_8_method_7_code
def yX6_settledResult : MethodName := ⟨RX6, "settledResult", "(II)I"⟩
abbrev cX6_reckon : ByteArray := prog_8_method_8_code
def yX6_reckon : MethodName := ⟨RX6, "reckon", "(III)V"⟩
abbrev cX6_keep : ByteArray := prog_8_method_9_code
def yX6_keep : MethodName := ⟨RX6, "keep", "(JIZ)V"⟩
abbrev cX6_reckonOver : ByteArray := prog_8_method_10_code
def yX6_reckonOver : MethodName := ⟨RX6, "reckonOver", "(II)V"⟩
abbrev cX6_reckonRoot : ByteArray := prog_8_method_11_code
def yX6_reckonRoot : MethodName := ⟨RX6, "reckonRoot", "(II)V"⟩
abbrev cX6_reckonThird : ByteArray := prog_8_method_12_code
def yX6_reckonThird : MethodName := ⟨RX6, "reckonThird", "(II)V"⟩
def RX7 : String := "HardBench"
def TX7 : u_T := fun k => match k with
  | 0 => ("HardBench", "floats", "LHardBench$Floats;", true)
  | 1 => ("HardBench", "place", "LHardBench$Place;", true)
  | 2 => ("HardBench", "value", "LHardBench$Value;", true)
  | 3 => ("HardBench", "census", "LHardBench$Census;", true)
  | 4 => ("HardBench", "stretches", "LHardBench$Stretches;", true)
  | 5 => ("HardBench", "lines", "LHardBench$Lines;", true)
  | _ => ("HardBench", "refusals", "[I", true)
def tyX7 : Nat → FieldType := fun k => match k with
  | 0 => .object "HardBench$Floats"
  | 1 => .object "HardBench$Place"
  | 2 => .object "HardBench$Value"
  | 3 => .object "HardBench$Census"
  | 4 => .object "HardBench$Stretches"
  | 5 => .object "HardBench$Lines"
  | _ => .array .int
abbrev wsX70 : List Cond := u_ws RX7 TX7 7
theorem nmX7 : ∀ a, a < 7 → ∀ b, b < 7 → a ≠ b → (TX7 a).2.1 ≠ (TX7 b).2.1 := by decide +kernel
theorem tyX7_ok : ∀ k, k < 7 → parseFieldDescriptor (TX7 k).2.2.1 = some (tyX7 k) := by decide +kernel
abbrev cX7_init : ByteArray := prog_1_method_1_code
def yX7_init : MethodName := ⟨RX7, "<init>", "()V"⟩
abbrev cX7_make : ByteArray := prog_1_method_2_code
def yX7_make : MethodName := ⟨RX7, "make", "(II)I"⟩
abbrev cX7_about : ByteArray := prog_1_method_3_code
def yX7_about : MethodName := ⟨RX7, "about", "(II)I"⟩
abbrev cX7_next : ByteArray := prog_1_method_4_code
def yX7_next : MethodName := ⟨RX7, "next", "(I)I"⟩
abbrev cX7_between : ByteArray := prog_1_method_5_code
def yX7_between : MethodName := ⟨RX7, "between", "(II)I"⟩
abbrev cX7_round : ByteArray := prog_1_method_6_code
def yX7_round : MethodName := ⟨RX7, "round", "(III)I"⟩
abbrev cX7_right : ByteArray := prog_1_method_7_code
def yX7_right : MethodName := ⟨RX7, "right", "(III)I"⟩
abbrev cX7_sort : ByteArray := prog_1_method_8_code
def yX7_sort : MethodName := ⟨RX7, "sort", "(II)I"⟩
abbrev cX7_figures : ByteArray := prog_1_method_9_code
def yX7_figures : MethodName := ⟨RX7, "figures", "(II)I"⟩
abbrev cX7_hard : ByteArray := prog_1_method_10_code
def yX7_hard : MethodName := ⟨RX7, "hard", "(II)I"⟩
abbrev cX7_hardest : ByteArray := prog_1_method_11_code
def yX7_hardest : MethodName := ⟨RX7, "hardest", "(II)I"⟩
abbrev cX7_count : ByteArray := prog_1_method_12_code
def yX7_count : MethodName := ⟨RX7, "count", "(II)I"⟩
abbrev cX7_all : ByteArray := prog_1_method_13_code
def yX7_all : MethodName := ⟨RX7, "all", "(II)I"⟩
abbrev cX7_spans : ByteArray := prog_1_method_14_code
def yX7_spans : MethodName := ⟨RX7, "spans", "(II)I"⟩
abbrev cX7_span : ByteArray := prog_1_method_15_code
def yX7_span : MethodName := ⟨RX7, "span", "(IIII)I"⟩
abbrev cX7_table : ByteArray := prog_1_method_16_code
def yX7_table : MethodName := ⟨RX7, "table", "(IIIII)I"⟩
abbrev cX7_part : ByteArray := prog_1_method_17_code
def yX7_part : MethodName := ⟨RX7, "part", "(II)I"⟩
abbrev cX7_look : ByteArray := prog_1_method_18_code
def yX7_look : MethodName := ⟨RX7, "look", "(I)I"⟩
abbrev cX7_fits : ByteArray := prog_1_method_19_code
def yX7_fits : MethodName := ⟨RX7, "fits", "(IIIIIIII)I"⟩
abbrev cX7_status : ByteArray := prog_1_method_20_code
def yX7_status : MethodName := ⟨RX7, "status", "(I)I"⟩
abbrev cX7_refuse : ByteArray := prog_1_method_21_code
def yX7_refuse : MethodName := ⟨RX7, "refuse", "(I)I"⟩
abbrev cX7_refuseAsTold : ByteArray := prog_1_method_22_code
def yX7_refuseAsTold : MethodName := ⟨RX7, "refuseAsTold", "(I)I"⟩
abbrev cX7_isFunction : ByteArray := prog_1_method_23_code
def yX7_isFunction : MethodName := ⟨RX7, "isFunction", "(I)Z"⟩
abbrev cX7_isRounding : ByteArray := prog_1_method_24_code
def yX7_isRounding : MethodName := ⟨RX7, "isRounding", "(I)Z"⟩
def RX8 : String := "HardBenchModel"
def TX8 : u_T := fun k => match k with
  | 0 => ("HardBenchModel", "refusals", "[I", true)
  | 1 => ("HardBenchModel", "e", "I", false)
  | 2 => ("HardBenchModel", "f", "I", false)
  | 3 => ("HardBenchModel", "codes", "I", false)
  | 4 => ("HardBenchModel", "most", "I", false)
  | 5 => ("HardBenchModel", "minus", "I", false)
  | 6 => ("HardBenchModel", "low", "I", false)
  | 7 => ("HardBenchModel", "function", "I", false)
  | 8 => ("HardBenchModel", "atX", "I", false)
  | 9 => ("HardBenchModel", "atM", "J", false)
  | 10 => ("HardBenchModel", "isKnown", "[Z", true)
  | 11 => ("HardBenchModel", "hards", "[I", true)
  | 12 => ("HardBenchModel", "sorts", "[I", true)
  | 13 => ("HardBenchModel", "spanFunction", "I", false)
  | 14 => ("HardBenchModel", "spanRounding", "I", false)
  | 15 => ("HardBenchModel", "spanMany", "I", false)
  | 16 => ("HardBenchModel", "spanFrom", "[I", true)
  | 17 => ("HardBenchModel", "spanTo", "[I", true)
  | 18 => ("HardBenchModel", "parts", "I", false)
  | 19 => ("HardBenchModel", "shift", "I", false)
  | 20 => ("HardBenchModel", "partFrom", "[I", true)
  | 21 => ("HardBenchModel", "partTo", "[I", true)
  | 22 => ("HardBenchModel", "partA", "[J", true)
  | 23 => ("HardBenchModel", "partB", "[J", true)
  | _ => ("HardBenchModel", "due", "[J", true)
def tyX8 : Nat → FieldType := fun k => match k with
  | 0 => .array .int
  | 1 => .int
  | 2 => .int
  | 3 => .int
  | 4 => .int
  | 5 => .int
  | 6 => .int
  | 7 => .int
  | 8 => .int
  | 9 => .long
  | 10 => .array .boolean
  | 11 => .array .int
  | 12 => .array .int
  | 13 => .int
  | 14 => .int
  | 15 => .int
  | 16 => .array .int
  | 17 => .array .int
  | 18 => .int
  | 19 => .int
  | 20 => .array .int
  | 21 => .array .int
  | 22 => .array .long
  | 23 => .array .long
  | _ => .array .long
abbrev wsX80 : List Cond := u_ws RX8 TX8 25
theorem nmX8 : ∀ a, a < 25 → ∀ b, b < 25 → a ≠ b → (TX8 a).2.1 ≠ (TX8 b).2.1 := by decide +kernel
theorem tyX8_ok : ∀ k, k < 25 → parseFieldDescriptor (TX8 k).2.2.1 = some (tyX8 k) := by decide +kernel
abbrev cX8_init : ByteArray := prog_10_method_1_code
def yX8_init : MethodName := ⟨RX8, "<init>", "()V"⟩
abbrev cX8_refuse : ByteArray := prog_10_method_2_code
def yX8_refuse : MethodName := ⟨RX8, "refuse", "(I)I"⟩
abbrev cX8_refuseFar : ByteArray := prog_10_method_3_code
def yX8_refuseFar : MethodName := ⟨RX8, "refuseFar", "(I)I"⟩
abbrev cX8_isIn : ByteArray := prog_10_method_4_code
def yX8_isIn : MethodName := ⟨RX8, "isIn", "(II)Z"⟩
abbrev cX8_makes : ByteArray := prog_10_method_5_code
def yX8_makes : MethodName := ⟨RX8, "makes", "(II)V"⟩
abbrev cX8_make : ByteArray := prog_10_method_6_code
def yX8_make : MethodName := ⟨RX8, "make", "(II)I"⟩
abbrev cX8_isCode : ByteArray := prog_10_method_7_code
def yX8_isCode : MethodName := ⟨RX8, "isCode", "(I)Z"⟩
abbrev cX8_size : ByteArray := prog_10_method_8_code
def yX8_size : MethodName := ⟨RX8, "size", "(I)I"⟩
abbrev cX8_isPlain : ByteArray := prog_10_method_9_code
def yX8_isPlain : MethodName := ⟨RX8, "isPlain", "(I)Z"⟩
abbrev cX8_figure : ByteArray := prog_10_method_10_code
def yX8_figure : MethodName := ⟨RX8, "figure", "(I)I"⟩
abbrev cX8_power : ByteArray := prog_10_method_11_code
def yX8_power : MethodName := ⟨RX8, "power", "(I)I"⟩
abbrev cX8_kind : ByteArray := prog_10_method_12_code
def yX8_kind : MethodName := ⟨RX8, "kind", "(I)I"⟩
abbrev cX8_about : ByteArray := prog_10_method_13_code
def yX8_about : MethodName := ⟨RX8, "about", "(II)I"⟩
abbrev cX8_next : ByteArray := prog_10_method_14_code
def yX8_next : MethodName := ⟨RX8, "next", "(I)I"⟩
abbrev cX8_placeOf : ByteArray := prog_10_method_15_code
def yX8_placeOf : MethodName := ⟨RX8, "placeOf", "(I)I"⟩
abbrev cX8_between : ByteArray := prog_10_method_16_code
def yX8_between : MethodName := ⟨RX8, "between", "(II)I"⟩
abbrev cX8_bits : ByteArray := prog_10_method_17_code
def yX8_bits : MethodName := ⟨RX8, "bits", "(J)I"⟩
abbrev cX8_compare : ByteArray := prog_10_method_18_code
def yX8_compare : MethodName := ⟨RX8, "compare", "(JIJI)I"⟩
abbrev cX8_stands : ByteArray := prog_10_method_19_code
def yX8_stands : MethodName := ⟨RX8, "stands", "(JI)I"⟩
abbrev cX8_floor : ByteArray := prog_10_method_20_code
def yX8_floor : MethodName := ⟨RX8, "floor", "()I"⟩
abbrev cX8_isFloat : ByteArray := prog_10_method_21_code
def yX8_isFloat : MethodName := ⟨RX8, "isFloat", "(I)Z"⟩
abbrev cX8_middle : ByteArray := prog_10_method_22_code
def yX8_middle : MethodName := ⟨RX8, "middle", "(I)I"⟩
abbrev cX8_rounded : ByteArray := prog_10_method_23_code
def yX8_rounded : MethodName := ⟨RX8, "rounded", "(IZ)I"⟩
abbrev cX8_round : ByteArray := prog_10_method_24_code
def yX8_round : MethodName := ⟨RX8, "round", "(III)I"⟩
abbrev cX8_plainly : ByteArray := prog_10_method_25_code
def yX8_plainly : MethodName := ⟨RX8, "plainly", "(II)I"⟩
abbrev cX8_sets : ByteArray := prog_10_method_26_code
def yX8_sets : MethodName := ⟨RX8, "sets", "(II)V"⟩
abbrev cX8_rightOf : ByteArray := prog_10_method_27_code
def yX8_rightOf : MethodName := ⟨RX8, "rightOf", "(III)I"⟩
abbrev cX8_isFunction : ByteArray := prog_10_method_28_code
def yX8_isFunction : MethodName := ⟨RX8, "isFunction", "(I)Z"⟩
abbrev cX8_right : ByteArray := prog_10_method_29_code
def yX8_right : MethodName := ⟨RX8, "right", "(III)I"⟩
abbrev cX8_sortOf : ByteArray := prog_10_method_30_code
def yX8_sortOf : MethodName := ⟨RX8, "sortOf", "(II)I"⟩
abbrev cX8_sort : ByteArray := prog_10_method_31_code
def yX8_sort : MethodName := ⟨RX8, "sort", "(II)I"⟩
abbrev cX8_figuresOf : ByteArray := prog_10_method_32_code
def yX8_figuresOf : MethodName := ⟨RX8, "figuresOf", "(II)I"⟩
abbrev cX8_figures : ByteArray := prog_10_method_33_code
def yX8_figures : MethodName := ⟨RX8, "figures", "(II)I"⟩
abbrev cX8_hardOf : ByteArray := prog_10_method_34_code
def yX8_hardOf : MethodName := ⟨RX8, "hardOf", "(II)I"⟩
abbrev cX8_hard : ByteArray := prog_10_method_35_code
def yX8_hard : MethodName := ⟨RX8, "hard", "(II)I"⟩
abbrev cX8_know : ByteArray := prog_10_method_36_code
def yX8_know : MethodName := ⟨RX8, "know", "(I)V"⟩
abbrev cX8_hardest : ByteArray := prog_10_method_37_code
def yX8_hardest : MethodName := ⟨RX8, "hardest", "(II)I"⟩
abbrev cX8_count : ByteArray := prog_10_method_38_code
def yX8_count : MethodName := ⟨RX8, "count", "(II)I"⟩
abbrev cX8_all : ByteArray := prog_10_method_39_code
def yX8_all : MethodName := ⟨RX8, "all", "(II)I"⟩
abbrev cX8_findSpans : ByteArray := prog_10_method_40_code
def yX8_findSpans : MethodName := ⟨RX8, "findSpans", "(II)V"⟩
abbrev cX8_spans : ByteArray := prog_10_method_41_code
def yX8_spans : MethodName := ⟨RX8, "spans", "(II)I"⟩
abbrev cX8_span : ByteArray := prog_10_method_42_code
def yX8_span : MethodName := ⟨RX8, "span", "(IIII)I"⟩
abbrev cX8_isPower : ByteArray := prog_10_method_43_code
def yX8_isPower : MethodName := ⟨RX8, "isPower", "(I)Z"⟩
abbrev cX8_table : ByteArray := prog_10_method_44_code
def yX8_table : MethodName := ⟨RX8, "table", "(IIIII)I"⟩
abbrev cX8_flat : ByteArray := prog_10_method_45_code
def yX8_flat : MethodName := ⟨RX8, "flat", "(II)I"⟩
abbrev cX8_lays : ByteArray := prog_10_method_46_code
def yX8_lays : MethodName := ⟨RX8, "lays", "(IIJJ)V"⟩
abbrev cX8_line : ByteArray := prog_10_method_47_code
def yX8_line : MethodName := ⟨RX8, "line", "(II)I"⟩
abbrev cX8_part : ByteArray := prog_10_method_48_code
def yX8_part : MethodName := ⟨RX8, "part", "(II)I"⟩
abbrev cX8_look : ByteArray := prog_10_method_49_code
def yX8_look : MethodName := ⟨RX8, "look", "(I)I"⟩
abbrev cX8_fits : ByteArray := prog_10_method_50_code
def yX8_fits : MethodName := ⟨RX8, "fits", "(IIIIIIII)I"⟩
abbrev cX8_status : ByteArray := prog_10_method_51_code
def yX8_status : MethodName := ⟨RX8, "status", "(I)I"⟩
def RJ6 : String := "java/lang/Integer"
def TJ6 : u_T := fun k => match k with
  | _ => ("", "", "", false)
def tyJ6 : Nat → FieldType := fun k => match k with
  | _ => .int
abbrev wsJ60 : List Cond := u_ws RJ6 TJ6 0
theorem nmJ6 : ∀ a, a < 0 → ∀ b, b < 0 → a ≠ b → (TJ6 a).2.1 ≠ (TJ6 b).2.1 := by decide +kernel
theorem tyJ6_ok : ∀ k, k < 0 → parseFieldDescriptor (TJ6 k).2.2.1 = some (tyJ6 k) := by decide +kernel
abbrev cJ6_numberOfLeadingZeros_0f7a4 : ByteArray := prog_11_method_47_code
def yJ6_numberOfLeadingZeros_0f7a4 : MethodName := ⟨RJ6, "numberOfLeadingZeros", "(I)I"⟩
abbrev cJ6_numberOfTrailingZeros_0f7a4 : ByteArray := prog_11_method_48_code
def yJ6_numberOfTrailingZeros_0f7a4 : MethodName := ⟨RJ6, "numberOfTrailingZeros", "(I)I"⟩
def RJ13 : String := "java/lang/Long"
def TJ13 : u_T := fun k => match k with
  | _ => ("", "", "", false)
def tyJ13 : Nat → FieldType := fun k => match k with
  | _ => .int
abbrev wsJ130 : List Cond := u_ws RJ13 TJ13 0
theorem nmJ13 : ∀ a, a < 0 → ∀ b, b < 0 → a ≠ b → (TJ13 a).2.1 ≠ (TJ13 b).2.1 := by decide +kernel
theorem tyJ13_ok : ∀ k, k < 0 → parseFieldDescriptor (TJ13 k).2.2.1 = some (tyJ13 k) := by decide +kernel
abbrev cJ13_numberOfLeadingZeros_95d88 : ByteArray := prog_12_method_48_code
def yJ13_numberOfLeadingZeros_95d88 : MethodName := ⟨RJ13, "numberOfLeadingZeros", "(J)I"⟩
def RJ9 : String := "java/lang/Math"
def TJ9 : u_T := fun k => match k with
  | _ => ("", "", "", false)
def tyJ9 : Nat → FieldType := fun k => match k with
  | _ => .int
abbrev wsJ90 : List Cond := u_ws RJ9 TJ9 0
theorem nmJ9 : ∀ a, a < 0 → ∀ b, b < 0 → a ≠ b → (TJ9 a).2.1 ≠ (TJ9 b).2.1 := by decide +kernel
theorem tyJ9_ok : ∀ k, k < 0 → parseFieldDescriptor (TJ9 k).2.2.1 = some (tyJ9 k) := by decide +kernel
abbrev cJ9_floorDiv_7cf53 : ByteArray := prog_13_method_47_code
def yJ9_floorDiv_7cf53 : MethodName := ⟨RJ9, "floorDiv", "(II)I"⟩
abbrev cJ9_floorDiv_f86c9 : ByteArray := prog_13_method_49_code
def yJ9_floorDiv_f86c9 : MethodName := ⟨RJ9, "floorDiv", "(JJ)J"⟩
abbrev cJ9_floorMod_7cf53 : ByteArray := prog_13_method_50_code
def yJ9_floorMod_7cf53 : MethodName := ⟨RJ9, "floorMod", "(II)I"⟩
abbrev cJ9_abs_0f7a4 : ByteArray := prog_13_method_59_code
def yJ9_abs_0f7a4 : MethodName := ⟨RJ9, "abs", "(I)I"⟩
abbrev cJ9_max_7cf53 : ByteArray := prog_13_method_65_code
def yJ9_max_7cf53 : MethodName := ⟨RJ9, "max", "(II)I"⟩
abbrev cJ9_max_f86c9 : ByteArray := prog_13_method_66_code
def yJ9_max_f86c9 : MethodName := ⟨RJ9, "max", "(JJ)J"⟩
abbrev cJ9_min_f86c9 : ByteArray := prog_13_method_70_code
def yJ9_min_f86c9 : MethodName := ⟨RJ9, "min", "(JJ)J"⟩
def RJ7 : String := "java/util/Arrays"
def TJ7 : u_T := fun k => match k with
  | _ => ("", "", "", false)
def tyJ7 : Nat → FieldType := fun k => match k with
  | _ => .int
abbrev wsJ70 : List Cond := u_ws RJ7 TJ7 0
theorem nmJ7 : ∀ a, a < 0 → ∀ b, b < 0 → a ≠ b → (TJ7 a).2.1 ≠ (TJ7 b).2.1 := by decide +kernel
theorem tyJ7_ok : ∀ k, k < 0 → parseFieldDescriptor (TJ7 k).2.2.1 = some (tyJ7 k) := by decide +kernel
abbrev cJ7_fill_53178 : ByteArray := prog_14_method_103_code
def yJ7_fill_53178 : MethodName := ⟨RJ7, "fill", "([II)V"⟩
def RL : String := "HardBenchLaw"
abbrev cL_law : ByteArray := code
def yL_law : MethodName := ⟨RL, "law", "([I)Z"⟩
def wsL_law_r1 : List Cond := [Cond.classLink RL 7 RX7, Cond.instantiable RX7 7, Cond.initialized RX7, Cond.classLink RL 10 RX8, Cond.instantiable RX8 25, Cond.initialized RX8, Cond.methodLink RL 9 yX7_init, Cond.instanceMethod yX7_init, Cond.code yX7_init cX7_init 1 none, Cond.methodLink RX7 3 objectInit, Cond.instanceMethod objectInit, Cond.code objectInit ⟨#[0xb1]⟩ 1 none, Cond.classLink RX7 9 RX1, Cond.instantiable RX1 6, Cond.initialized RX1, Cond.fieldLink RX7 12 "HardBench" "floats" "LHardBench$Floats;", Cond.classLink RX7 16 RX3, Cond.instantiable RX3 5, Cond.initialized RX3, Cond.fieldLink RX7 21 "HardBench" "place" "LHardBench$Place;", Cond.classLink RX7 25 RX6, Cond.instantiable RX6 9, Cond.initialized RX6, Cond.fieldLink RX7 28 "HardBench" "value" "LHardBench$Value;"]
def wsL_law_r2 : List Cond := [Cond.classLink RX7 32 RX0, Cond.instantiable RX0 7, Cond.initialized RX0, Cond.fieldLink RX7 37 "HardBench" "census" "LHardBench$Census;", Cond.classLink RX7 41 RX5, Cond.instantiable RX5 4, Cond.initialized RX5, Cond.fieldLink RX7 44 "HardBench" "stretches" "LHardBench$Stretches;", Cond.classLink RX7 48 RX2, Cond.instantiable RX2 10, Cond.initialized RX2, Cond.fieldLink RX7 51 "HardBench" "lines" "LHardBench$Lines;", Cond.arrayClass .int, Cond.fieldLink RX7 55 "HardBench" "refusals" "[I", Cond.methodLink RX7 11 yX1_init, Cond.instanceMethod yX1_init, Cond.code yX1_init cX1_init 1 none, Cond.methodLink RX1 1 objectInit, Cond.methodLink RX1 7 yX1_become, Cond.instanceMethod yX1_become, Cond.selects RX1 yX1_become yX1_become, Cond.code yX1_become cX1_become 3 none, Cond.fieldLink RX1 13 "HardBench$Floats" "e" "I", Cond.fieldLink RX1 17 "HardBench$Floats" "f" "I"]
def wsL_law_r3 : List Cond := [Cond.fieldLink RX1 20 "HardBench$Floats" "bias" "I", Cond.fieldLink RX1 23 "HardBench$Floats" "codes" "I", Cond.fieldLink RX1 26 "HardBench$Floats" "signBit" "I", Cond.fieldLink RX1 29 "HardBench$Floats" "endless" "I", Cond.methodLink RX7 18 yX3_init, Cond.instanceMethod yX3_init, Cond.code yX3_init cX3_init 2 none, Cond.methodLink RX3 3 objectInit, Cond.fieldLink RX3 9 "HardBench$Place" "floats" "LHardBench$Floats;", Cond.methodLink RX7 27 yX6_init, Cond.instanceMethod yX6_init, Cond.code yX6_init cX6_init 2 none, Cond.methodLink RX6 3 objectInit, Cond.fieldLink RX6 9 "HardBench$Value" "floats" "LHardBench$Floats;", Cond.classLink RX6 15 RX3, Cond.fieldLink RX6 20 "HardBench$Value" "place" "LHardBench$Place;", Cond.methodLink RX6 17 yX3_init, Cond.methodLink RX7 34 yX0_init, Cond.instanceMethod yX0_init, Cond.code yX0_init cX0_init 3 none, Cond.methodLink RX0 3 objectInit, Cond.fieldLink RX0 9 "HardBench$Census" "floats" "LHardBench$Floats;", Cond.fieldLink RX0 15 "HardBench$Census" "value" "LHardBench$Value;", Cond.fieldLink RX0 19 "HardBench$Census" "taken" "[I"]
def wsL_law_r4 : List Cond := [Cond.fieldLink RX0 23 "HardBench$Census" "sorts" "[I", Cond.fieldLink RX0 26 "HardBench$Census" "hardnesses" "[I", Cond.fieldLink RX0 29 "HardBench$Census" "blockGreatest" "[I", Cond.fieldLink RX0 32 "HardBench$Census" "blockHave" "[I", Cond.methodLink RX7 43 yX5_init, Cond.instanceMethod yX5_init, Cond.code yX5_init cX5_init 3 none, Cond.methodLink RX5 3 objectInit, Cond.fieldLink RX5 9 "HardBench$Stretches" "floats" "LHardBench$Floats;", Cond.fieldLink RX5 15 "HardBench$Stretches" "value" "LHardBench$Value;", Cond.fieldLink RX5 19 "HardBench$Stretches" "totals" "[I", Cond.fieldLink RX5 23 "HardBench$Stretches" "begun" "[I", Cond.methodLink RX7 50 yX2_init, Cond.instanceMethod yX2_init, Cond.code yX2_init cX2_init 3 none, Cond.methodLink RX2 3 objectInit, Cond.fieldLink RX2 9 "HardBench$Lines" "floats" "LHardBench$Floats;", Cond.fieldLink RX2 15 "HardBench$Lines" "value" "LHardBench$Value;", Cond.fieldLink RX2 19 "HardBench$Lines" "due" "[I", Cond.fieldLink RX2 23 "HardBench$Lines" "firsts" "[I", Cond.fieldLink RX2 26 "HardBench$Lines" "starts" "[I", Cond.fieldLink RX2 29 "HardBench$Lines" "slopes" "[I", Cond.methodLink RL 12 yX8_init, Cond.instanceMethod yX8_init]
def wsL_law_r5 : List Cond := [Cond.code yX8_init cX8_init 1 none, Cond.methodLink RX8 1 objectInit, Cond.fieldLink RX8 7 "HardBenchModel" "refusals" "[I", Cond.arrayClass .boolean, Cond.fieldLink RX8 13 "HardBenchModel" "isKnown" "[Z", Cond.constant RX8 17 (81920), Cond.fieldLink RX8 18 "HardBenchModel" "hards" "[I", Cond.fieldLink RX8 21 "HardBenchModel" "sorts" "[I", Cond.fieldLink RX8 24 "HardBenchModel" "spanFrom" "[I", Cond.fieldLink RX8 27 "HardBenchModel" "spanTo" "[I", Cond.fieldLink RX8 30 "HardBenchModel" "partFrom" "[I", Cond.fieldLink RX8 33 "HardBenchModel" "partTo" "[I", Cond.arrayClass .long, Cond.fieldLink RX8 36 "HardBenchModel" "partA" "[J", Cond.fieldLink RX8 40 "HardBenchModel" "partB" "[J", Cond.fieldLink RX8 43 "HardBenchModel" "due" "[J", Cond.methodLink RX8 46 yX8_makes, Cond.instanceMethod yX8_makes, Cond.selects RX8 yX8_makes yX8_makes, Cond.code yX8_makes cX8_makes 4 none, Cond.fieldLink RX8 55 "HardBenchModel" "e" "I", Cond.fieldLink RX8 59 "HardBenchModel" "f" "I", Cond.fieldLink RX8 62 "HardBenchModel" "codes" "I", Cond.fieldLink RX8 65 "HardBenchModel" "minus" "I"]
def wsL_law_r6 : List Cond := [Cond.fieldLink RX8 68 "HardBenchModel" "most" "I", Cond.fieldLink RX8 71 "HardBenchModel" "low" "I", Cond.fieldLink RX8 74 "HardBenchModel" "parts" "I", Cond.fieldLink RX8 77 "HardBenchModel" "spanFunction" "I", Cond.methodLink RL 13 yX7_make, Cond.instanceMethod yX7_make, Cond.selects RX7 yX7_make yX7_make, Cond.code yX7_make cX7_make 3 (some .int), Cond.methodLink RX7 59 yX7_refuse, Cond.instanceMethod yX7_refuse, Cond.selects RX7 yX7_refuse yX7_refuse, Cond.code yX7_refuse cX7_refuse 2 (some .int), Cond.methodLink RX7 228 yX4_addOne, Cond.static yX4_addOne, Cond.initialized RX4, Cond.code yX4_addOne cX4_addOne 2 none, Cond.methodLink RX4 7 yX4_at, Cond.static yX4_at, Cond.code yX4_at cX4_at 2 (some .int), Cond.methodLink RX4 13 yX4_put, Cond.static yX4_put, Cond.code yX4_put cX4_put 3 none, Cond.methodLink RX7 70 yX1_become, Cond.methodLink RX7 74 yX0_forget]
def wsL_law_r7 : List Cond := [Cond.instanceMethod yX0_forget, Cond.selects RX0 yX0_forget yX0_forget, Cond.code yX0_forget cX0_forget 1 none, Cond.methodLink RX0 35 yJ7_fill_53178, Cond.static yJ7_fill_53178, Cond.initialized RJ7, Cond.code yJ7_fill_53178 cJ7_fill_53178 4 none, Cond.methodLink RX7 77 yX5_forget, Cond.instanceMethod yX5_forget, Cond.selects RX5 yX5_forget yX5_forget, Cond.code yX5_forget cX5_forget 1 none, Cond.methodLink RX5 26 yJ7_fill_53178, Cond.methodLink RX7 78 yX2_forget, Cond.instanceMethod yX2_forget, Cond.selects RX2 yX2_forget yX2_forget, Cond.code yX2_forget cX2_forget 1 none, Cond.fieldLink RX2 32 "HardBench$Lines" "parts" "I", Cond.methodLink RL 17 yX8_make, Cond.instanceMethod yX8_make, Cond.selects RX8 yX8_make yX8_make, Cond.code yX8_make cX8_make 3 (some .int), Cond.methodLink RX8 51 yX8_refuse, Cond.instanceMethod yX8_refuse, Cond.selects RX8 yX8_refuse yX8_refuse]
def wsL_law_r8 : List Cond := [Cond.code yX8_refuse cX8_refuse 2 (some .int), Cond.methodLink RL 18 yX7_about, Cond.instanceMethod yX7_about, Cond.selects RX7 yX7_about yX7_about, Cond.code yX7_about cX7_about 3 (some .int), Cond.methodLink RX7 82 yX1_isCode, Cond.instanceMethod yX1_isCode, Cond.selects RX1 yX1_isCode yX1_isCode, Cond.code yX1_isCode cX1_isCode 2 (some .boolean), Cond.methodLink RX7 86 yX7_refuseAsTold, Cond.instanceMethod yX7_refuseAsTold, Cond.selects RX7 yX7_refuseAsTold yX7_refuseAsTold, Cond.code yX7_refuseAsTold cX7_refuseAsTold 2 (some .int), Cond.constant RX7 214 (1000000000), Cond.methodLink RX7 89 yX1_isPlain, Cond.instanceMethod yX1_isPlain, Cond.selects RX1 yX1_isPlain yX1_isPlain, Cond.code yX1_isPlain cX1_isPlain 2 (some .boolean), Cond.methodLink RX1 36 yX1_amount, Cond.instanceMethod yX1_amount, Cond.selects RX1 yX1_amount yX1_amount, Cond.code yX1_amount cX1_amount 2 (some .int), Cond.methodLink RX7 92 yX1_kindOf, Cond.instanceMethod yX1_kindOf]
def wsL_law_r9 : List Cond := [Cond.selects RX1 yX1_kindOf yX1_kindOf, Cond.code yX1_kindOf cX1_kindOf 2 (some .int), Cond.methodLink RX1 40 yX1_isPlain, Cond.methodLink RX1 44 yX1_isZero, Cond.instanceMethod yX1_isZero, Cond.selects RX1 yX1_isZero yX1_isZero, Cond.code yX1_isZero cX1_isZero 2 (some .boolean), Cond.methodLink RX1 47 yX1_isNone, Cond.instanceMethod yX1_isNone, Cond.selects RX1 yX1_isNone yX1_isNone, Cond.code yX1_isNone cX1_isNone 2 (some .boolean), Cond.methodLink RX7 95 yX1_isBelow, Cond.instanceMethod yX1_isBelow, Cond.selects RX1 yX1_isBelow yX1_isBelow, Cond.code yX1_isBelow cX1_isBelow 2 (some .boolean), Cond.methodLink RX7 98 yX1_powerBits, Cond.instanceMethod yX1_powerBits, Cond.selects RX1 yX1_powerBits yX1_powerBits, Cond.code yX1_powerBits cX1_powerBits 2 (some .int), Cond.methodLink RX7 101 yX1_figureBits, Cond.instanceMethod yX1_figureBits, Cond.selects RX1 yX1_figureBits yX1_figureBits, Cond.code yX1_figureBits cX1_figureBits 2 (some .int), Cond.methodLink RX1 32 yX1_zs]
def wsL_law_r10 : List Cond := [Cond.instanceMethod yX1_zs, Cond.selects RX1 yX1_zs yX1_zs, Cond.code yX1_zs cX1_zs 1 (some .int), Cond.methodLink RX7 104 yX1_oddFactor, Cond.instanceMethod yX1_oddFactor, Cond.selects RX1 yX1_oddFactor yX1_oddFactor, Cond.code yX1_oddFactor cX1_oddFactor 3 (some .int), Cond.methodLink RX1 62 yX1_factor, Cond.instanceMethod yX1_factor, Cond.selects RX1 yX1_factor yX1_factor, Cond.code yX1_factor cX1_factor 2 (some .int), Cond.methodLink RX1 50 yX1_powerBits, Cond.methodLink RX1 53 yX1_figureBits, Cond.methodLink RX1 65 yJ6_numberOfTrailingZeros_0f7a4, Cond.static yJ6_numberOfTrailingZeros_0f7a4, Cond.initialized RJ6, Cond.code yJ6_numberOfTrailingZeros_0f7a4 cJ6_numberOfTrailingZeros_0f7a4 2 (some .int), Cond.constant RJ6 264 (65536), Cond.methodLink RX7 107 yX1_powerOfOddFactor, Cond.instanceMethod yX1_powerOfOddFactor, Cond.selects RX1 yX1_powerOfOddFactor yX1_powerOfOddFactor, Cond.code yX1_powerOfOddFactor cX1_powerOfOddFactor 3 (some .int), Cond.methodLink RX1 70 yX1_power, Cond.instanceMethod yX1_power]
def wsL_law_r11 : List Cond := [Cond.selects RX1 yX1_power yX1_power, Cond.code yX1_power cX1_power 2 (some .int), Cond.methodLink RX1 56 Lib.Math.max.name, Cond.static Lib.Math.max.name, Cond.initialized "java/lang/Math", Cond.code Lib.Math.max.name Lib.Math.max.code 2 (some .int), Cond.methodLink RL 21 yX8_about, Cond.instanceMethod yX8_about, Cond.selects RX8 yX8_about yX8_about, Cond.code yX8_about cX8_about 6 (some .int), Cond.methodLink RX8 87 yX8_isCode, Cond.instanceMethod yX8_isCode, Cond.selects RX8 yX8_isCode yX8_isCode, Cond.code yX8_isCode cX8_isCode 2 (some .boolean), Cond.methodLink RX8 80 yX8_isIn, Cond.static yX8_isIn, Cond.code yX8_isIn cX8_isIn 2 (some .boolean), Cond.methodLink RX8 91 yX8_refuseFar, Cond.instanceMethod yX8_refuseFar, Cond.selects RX8 yX8_refuseFar yX8_refuseFar, Cond.code yX8_refuseFar cX8_refuseFar 2 (some .int), Cond.constant RX8 50 (1000000000), Cond.methodLink RX8 84 yX8_size, Cond.instanceMethod yX8_size]
def wsL_law_r12 : List Cond := [Cond.selects RX8 yX8_size yX8_size, Cond.code yX8_size cX8_size 2 (some .int), Cond.methodLink RX8 94 yX8_kind, Cond.instanceMethod yX8_kind, Cond.selects RX8 yX8_kind yX8_kind, Cond.code yX8_kind cX8_kind 3 (some .int), Cond.methodLink RX8 97 yX8_isPlain, Cond.instanceMethod yX8_isPlain, Cond.selects RX8 yX8_isPlain yX8_isPlain, Cond.code yX8_isPlain cX8_isPlain 2 (some .boolean), Cond.methodLink RX8 100 yX8_figure, Cond.instanceMethod yX8_figure, Cond.selects RX8 yX8_figure yX8_figure, Cond.code yX8_figure cX8_figure 2 (some .int), Cond.methodLink RX8 103 yX8_power, Cond.instanceMethod yX8_power, Cond.selects RX8 yX8_power yX8_power, Cond.code yX8_power cX8_power 2 (some .int), Cond.methodLink RL 22 yX7_next, Cond.instanceMethod yX7_next, Cond.selects RX7 yX7_next yX7_next, Cond.code yX7_next cX7_next 2 (some .int), Cond.methodLink RX7 110 yX1_codeAbove, Cond.instanceMethod yX1_codeAbove]
def wsL_law_r13 : List Cond := [Cond.selects RX1 yX1_codeAbove yX1_codeAbove, Cond.code yX1_codeAbove cX1_codeAbove 3 (some .int), Cond.methodLink RX1 76 yX1_stepsFromZero, Cond.instanceMethod yX1_stepsFromZero, Cond.selects RX1 yX1_stepsFromZero yX1_stepsFromZero, Cond.code yX1_stepsFromZero cX1_stepsFromZero 2 (some .int), Cond.methodLink RX1 73 yX1_isBelow, Cond.methodLink RL 26 yX8_next, Cond.instanceMethod yX8_next, Cond.selects RX8 yX8_next yX8_next, Cond.code yX8_next cX8_next 3 (some .int), Cond.methodLink RL 27 yX7_between, Cond.instanceMethod yX7_between, Cond.selects RX7 yX7_between yX7_between, Cond.code yX7_between cX7_between 4 (some .int), Cond.methodLink RX7 116 Lib.Math.abs.name, Cond.static Lib.Math.abs.name, Cond.code Lib.Math.abs.name Lib.Math.abs.code 1 (some .int), Cond.methodLink RX7 121 Lib.Math.max.name, Cond.methodLink RX7 113 yX1_stepsFromZero, Cond.methodLink RL 30 yX8_between, Cond.instanceMethod yX8_between, Cond.selects RX8 yX8_between yX8_between, Cond.code yX8_between cX8_between 4 (some .int)]
def wsL_law_r14 : List Cond := [Cond.methodLink RX8 109 Lib.Math.abs.name, Cond.methodLink RX8 106 yX8_placeOf, Cond.instanceMethod yX8_placeOf, Cond.selects RX8 yX8_placeOf yX8_placeOf, Cond.code yX8_placeOf cX8_placeOf 2 (some .int), Cond.methodLink RL 31 yX7_round, Cond.instanceMethod yX7_round, Cond.selects RX7 yX7_round yX7_round, Cond.code yX7_round cX7_round 4 (some .int), Cond.constant RX7 128 (-100000), Cond.constant RX7 129 (100000), Cond.methodLink RX7 125 yX7_isRounding, Cond.static yX7_isRounding, Cond.code yX7_isRounding cX7_isRounding 1 (some .boolean), Cond.methodLink RX7 130 yX3_lay, Cond.instanceMethod yX3_lay, Cond.selects RX3 yX3_lay yX3_lay, Cond.code yX3_lay cX3_lay 11 none, Cond.methodLink RX3 27 Lib.Math.max.name, Cond.fieldLink RX3 40 "HardBench$Place" "more" "Z", Cond.fieldLink RX3 44 "HardBench$Place" "way" "I", Cond.fieldLink RX3 51 "HardBench$Place" "beyond" "Z", Cond.fieldLink RX3 54 "HardBench$Place" "lower" "I", Cond.methodLink RX3 15 yJ13_numberOfLeadingZeros_95d88]
def wsL_law_r15 : List Cond := [Cond.static yJ13_numberOfLeadingZeros_95d88, Cond.initialized RJ13, Cond.code yJ13_numberOfLeadingZeros_95d88 cJ13_numberOfLeadingZeros_95d88 3 (some .int), Cond.methodLink RJ13 308 yJ6_numberOfLeadingZeros_0f7a4, Cond.static yJ6_numberOfLeadingZeros_0f7a4, Cond.code yJ6_numberOfLeadingZeros_0f7a4 cJ6_numberOfLeadingZeros_0f7a4 2 (some .int), Cond.methodLink RX3 36 yX3_shifted, Cond.static yX3_shifted, Cond.code yX3_shifted cX3_shifted 3 (some .long), Cond.methodLink RX3 47 yX1_greatestPlain, Cond.instanceMethod yX1_greatestPlain, Cond.selects RX1 yX1_greatestPlain yX1_greatestPlain, Cond.code yX1_greatestPlain cX1_greatestPlain 1 (some .int), Cond.methodLink RX7 134 yX3_rounded, Cond.instanceMethod yX3_rounded, Cond.selects RX3 yX3_rounded yX3_rounded, Cond.code yX3_rounded cX3_rounded 5 (some .int), Cond.methodLink RX3 60 yX3_takesUpper, Cond.instanceMethod yX3_takesUpper, Cond.selects RX3 yX3_takesUpper yX3_takesUpper, Cond.code yX3_takesUpper cX3_takesUpper 4 (some .boolean), Cond.methodLink RX3 57 yX3_sortLaid, Cond.instanceMethod yX3_sortLaid, Cond.selects RX3 yX3_sortLaid yX3_sortLaid]
def wsL_law_r16 : List Cond := [Cond.code yX3_sortLaid cX3_sortLaid 1 (some .int), Cond.methodLink RL 35 yX8_round, Cond.instanceMethod yX8_round, Cond.selects RX8 yX8_round yX8_round, Cond.code yX8_round cX8_round 4 (some .int), Cond.constant RX8 148 (-100000), Cond.constant RX8 149 (100000), Cond.fieldLink RX8 118 "HardBenchModel" "function" "I", Cond.fieldLink RX8 121 "HardBenchModel" "atM" "J", Cond.fieldLink RX8 125 "HardBenchModel" "atX" "I", Cond.methodLink RX8 150 yX8_rounded, Cond.instanceMethod yX8_rounded, Cond.selects RX8 yX8_rounded yX8_rounded, Cond.code yX8_rounded cX8_rounded 7 (some .int), Cond.methodLink RX8 138 yX8_floor, Cond.instanceMethod yX8_floor, Cond.selects RX8 yX8_floor yX8_floor, Cond.code yX8_floor cX8_floor 4 (some .int), Cond.methodLink RX8 132 yX8_stands, Cond.instanceMethod yX8_stands, Cond.selects RX8 yX8_stands yX8_stands, Cond.code yX8_stands cX8_stands 4 (some .int), Cond.methodLink RX8 128 yX8_compare, Cond.static yX8_compare]
def wsL_law_r17 : List Cond := [Cond.code yX8_compare cX8_compare 12 (some .int), Cond.methodLink RX8 114 yX8_bits, Cond.static yX8_bits, Cond.code yX8_bits cX8_bits 5 (some .int), Cond.methodLink RX8 142 yX8_isFloat, Cond.instanceMethod yX8_isFloat, Cond.selects RX8 yX8_isFloat yX8_isFloat, Cond.code yX8_isFloat cX8_isFloat 2 (some .boolean), Cond.methodLink RX8 145 yX8_middle, Cond.instanceMethod yX8_middle, Cond.selects RX8 yX8_middle yX8_middle, Cond.code yX8_middle cX8_middle 2 (some .int), Cond.constantLong RX8 136 (2), Cond.methodLink RL 36 yX7_right, Cond.instanceMethod yX7_right, Cond.selects RX7 yX7_right yX7_right, Cond.code yX7_right cX7_right 4 (some .int), Cond.methodLink RX7 138 yX7_isFunction, Cond.static yX7_isFunction, Cond.code yX7_isFunction cX7_isFunction 1 (some .boolean), Cond.methodLink RX7 141 yX6_resultAt, Cond.instanceMethod yX6_resultAt, Cond.selects RX6 yX6_resultAt yX6_resultAt, Cond.code yX6_resultAt cX6_resultAt 4 (some .int)]
def wsL_law_r18 : List Cond := [Cond.fieldLink RX6 28 "HardBench$Value" "laid" "Z", Cond.fieldLink RX6 32 "HardBench$Value" "below" "Z", Cond.fieldLink RX6 39 "HardBench$Value" "settled" "I", Cond.methodLink RX6 24 yX6_read, Cond.instanceMethod yX6_read, Cond.selects RX6 yX6_read yX6_read, Cond.code yX6_read cX6_read 5 none, Cond.fieldLink RX6 76 "HardBench$Value" "m" "J", Cond.fieldLink RX6 80 "HardBench$Value" "x" "I", Cond.fieldLink RX6 83 "HardBench$Value" "more" "Z", Cond.fieldLink RX6 43 "HardBench$Value" "sort" "I", Cond.methodLink RX6 53 yX1_isZero, Cond.methodLink RX6 59 yX1_isBelow, Cond.methodLink RX6 62 yX1_isPlain, Cond.methodLink RX6 65 yX1_factor, Cond.methodLink RX6 69 yX1_power, Cond.methodLink RX6 72 yX6_reckon, Cond.instanceMethod yX6_reckon, Cond.selects RX6 yX6_reckon yX6_reckon, Cond.code yX6_reckon cX6_reckon 6 none, Cond.methodLink RX6 109 yX6_reckonOver, Cond.instanceMethod yX6_reckonOver, Cond.selects RX6 yX6_reckonOver yX6_reckonOver, Cond.code yX6_reckonOver cX6_reckonOver 7 none]
def wsL_law_r19 : List Cond := [Cond.constantLong RX6 121 (1099511627776), Cond.methodLink RX6 118 yX6_keep, Cond.instanceMethod yX6_keep, Cond.selects RX6 yX6_keep yX6_keep, Cond.code yX6_keep cX6_keep 5 none, Cond.methodLink RX6 112 yX6_reckonRoot, Cond.instanceMethod yX6_reckonRoot, Cond.selects RX6 yX6_reckonRoot yX6_reckonRoot, Cond.code yX6_reckonRoot cX6_reckonRoot 11 none, Cond.methodLink RX6 123 yJ6_numberOfLeadingZeros_0f7a4, Cond.methodLink RX6 128 yJ9_floorMod_7cf53, Cond.static yJ9_floorMod_7cf53, Cond.initialized RJ9, Cond.code yJ9_floorMod_7cf53 cJ9_floorMod_7cf53 3 (some .int), Cond.methodLink RX6 133 yJ9_floorDiv_7cf53, Cond.static yJ9_floorDiv_7cf53, Cond.code yJ9_floorDiv_7cf53 cJ9_floorDiv_7cf53 3 (some .int), Cond.methodLink RX6 115 yX6_reckonThird, Cond.instanceMethod yX6_reckonThird, Cond.selects RX6 yX6_reckonThird yX6_reckonThird, Cond.code yX6_reckonThird cX6_reckonThird 11 none, Cond.methodLink RX6 86 yX3_lay, Cond.methodLink RX6 90 yX3_sortLaid, Cond.methodLink RX6 93 yX6_settledResult]
def wsL_law_r20 : List Cond := [Cond.instanceMethod yX6_settledResult, Cond.selects RX6 yX6_settledResult yX6_settledResult, Cond.code yX6_settledResult cX6_settledResult 7 (some .int), Cond.methodLink RX6 97 yX1_isNone, Cond.methodLink RX6 100 yX1_none, Cond.instanceMethod yX1_none, Cond.selects RX1 yX1_none yX1_none, Cond.code yX1_none cX1_none 1 (some .int), Cond.methodLink RX6 35 yX3_rounded, Cond.methodLink RL 39 yX8_right, Cond.instanceMethod yX8_right, Cond.selects RX8 yX8_right yX8_right, Cond.code yX8_right cX8_right 4 (some .int), Cond.methodLink RX8 161 yX8_isFunction, Cond.static yX8_isFunction, Cond.code yX8_isFunction cX8_isFunction 1 (some .boolean), Cond.methodLink RX8 164 yX8_rightOf, Cond.instanceMethod yX8_rightOf, Cond.selects RX8 yX8_rightOf yX8_rightOf, Cond.code yX8_rightOf cX8_rightOf 5 (some .int), Cond.methodLink RX8 154 yX8_plainly, Cond.instanceMethod yX8_plainly, Cond.selects RX8 yX8_plainly yX8_plainly, Cond.code yX8_plainly cX8_plainly 6 (some .int)]
def wsL_law_r21 : List Cond := [Cond.methodLink RX8 158 yX8_sets, Cond.instanceMethod yX8_sets, Cond.selects RX8 yX8_sets yX8_sets, Cond.code yX8_sets cX8_sets 3 none, Cond.methodLink RL 40 yX7_sort, Cond.instanceMethod yX7_sort, Cond.selects RX7 yX7_sort yX7_sort, Cond.code yX7_sort cX7_sort 3 (some .int), Cond.methodLink RX7 145 yX6_read, Cond.methodLink RX7 148 yX6_sortRead, Cond.instanceMethod yX6_sortRead, Cond.selects RX6 yX6_sortRead yX6_sortRead, Cond.code yX6_sortRead cX6_sortRead 1 (some .int), Cond.methodLink RL 43 yX8_sort, Cond.instanceMethod yX8_sort, Cond.selects RX8 yX8_sort yX8_sort, Cond.code yX8_sort cX8_sort 3 (some .int), Cond.methodLink RX8 168 yX8_sortOf, Cond.instanceMethod yX8_sortOf, Cond.selects RX8 yX8_sortOf yX8_sortOf, Cond.code yX8_sortOf cX8_sortOf 4 (some .int), Cond.methodLink RL 44 yX7_figures, Cond.instanceMethod yX7_figures, Cond.selects RX7 yX7_figures yX7_figures]
def wsL_law_r22 : List Cond := [Cond.code yX7_figures cX7_figures 3 (some .int), Cond.methodLink RX7 152 yX6_figuresRead, Cond.instanceMethod yX6_figuresRead, Cond.selects RX6 yX6_figuresRead yX6_figuresRead, Cond.code yX6_figuresRead cX6_figuresRead 1 (some .int), Cond.methodLink RX6 46 yX3_figuresLaid, Cond.instanceMethod yX3_figuresLaid, Cond.selects RX3 yX3_figuresLaid yX3_figuresLaid, Cond.code yX3_figuresLaid cX3_figuresLaid 2 (some .int), Cond.methodLink RL 47 yX8_figures, Cond.instanceMethod yX8_figures, Cond.selects RX8 yX8_figures yX8_figures, Cond.code yX8_figures cX8_figures 3 (some .int), Cond.methodLink RX8 171 yX8_figuresOf, Cond.instanceMethod yX8_figuresOf, Cond.selects RX8 yX8_figuresOf yX8_figuresOf, Cond.code yX8_figuresOf cX8_figuresOf 9 (some .int), Cond.methodLink RL 48 yX7_hard, Cond.instanceMethod yX7_hard, Cond.selects RX7 yX7_hard yX7_hard, Cond.code yX7_hard cX7_hard 3 (some .int), Cond.methodLink RX7 155 yX6_hardnessRead, Cond.instanceMethod yX6_hardnessRead, Cond.selects RX6 yX6_hardnessRead yX6_hardnessRead]
def wsL_law_r23 : List Cond := [Cond.code yX6_hardnessRead cX6_hardnessRead 5 (some .int), Cond.methodLink RX6 50 yX6_figuresRead, Cond.methodLink RL 51 yX8_hard, Cond.instanceMethod yX8_hard, Cond.selects RX8 yX8_hard yX8_hard, Cond.code yX8_hard cX8_hard 3 (some .int), Cond.methodLink RX8 174 yX8_hardOf, Cond.instanceMethod yX8_hardOf, Cond.selects RX8 yX8_hardOf yX8_hardOf, Cond.code yX8_hardOf cX8_hardOf 5 (some .int), Cond.methodLink RL 52 yX7_hardest, Cond.instanceMethod yX7_hardest, Cond.selects RX7 yX7_hardest yX7_hardest, Cond.code yX7_hardest cX7_hardest 3 (some .int), Cond.methodLink RX7 158 yX0_take, Cond.instanceMethod yX0_take, Cond.selects RX0 yX0_take yX0_take, Cond.code yX0_take cX0_take 4 none, Cond.methodLink RX0 41 yX4_at, Cond.methodLink RX0 47 yX4_put, Cond.methodLink RX0 57 yX6_read, Cond.methodLink RX0 63 yX6_hardnessRead, Cond.methodLink RX0 67 yX6_sortRead, Cond.methodLink RX0 70 yX4_addOne]
def wsL_law_r24 : List Cond := [Cond.methodLink RX0 73 yX0_addToBlock, Cond.instanceMethod yX0_addToBlock, Cond.selects RX0 yX0_addToBlock yX0_addToBlock, Cond.code yX0_addToBlock cX0_addToBlock 3 none, Cond.methodLink RX7 162 yX0_hardestCode, Cond.instanceMethod yX0_hardestCode, Cond.selects RX0 yX0_hardestCode yX0_hardestCode, Cond.code yX0_hardestCode cX0_hardestCode 7 (some .int), Cond.methodLink RX0 76 yX0_greatestHardness, Cond.instanceMethod yX0_greatestHardness, Cond.selects RX0 yX0_greatestHardness yX0_greatestHardness, Cond.code yX0_greatestHardness cX0_greatestHardness 3 (some .int), Cond.methodLink RX0 80 yX0_ofHardness, Cond.instanceMethod yX0_ofHardness, Cond.selects RX0 yX0_ofHardness yX0_ofHardness, Cond.code yX0_ofHardness cX0_ofHardness 3 (some .int), Cond.methodLink RX0 84 yX0_inBlock, Cond.instanceMethod yX0_inBlock, Cond.selects RX0 yX0_inBlock yX0_inBlock, Cond.code yX0_inBlock cX0_inBlock 5 (some .int), Cond.methodLink RL 55 yX8_hardest, Cond.instanceMethod yX8_hardest, Cond.selects RX8 yX8_hardest yX8_hardest, Cond.code yX8_hardest cX8_hardest 6 (some .int)]
def wsL_law_r25 : List Cond := [Cond.methodLink RX8 181 Lib.Math.max.name, Cond.methodLink RX8 177 yX8_know, Cond.instanceMethod yX8_know, Cond.selects RX8 yX8_know yX8_know, Cond.code yX8_know cX8_know 3 none, Cond.methodLink RL 56 yX7_count, Cond.instanceMethod yX7_count, Cond.selects RX7 yX7_count yX7_count, Cond.code yX7_count cX7_count 3 (some .int), Cond.methodLink RX7 165 yX0_ofHardness, Cond.methodLink RL 59 yX8_count, Cond.instanceMethod yX8_count, Cond.selects RX8 yX8_count yX8_count, Cond.code yX8_count cX8_count 5 (some .int), Cond.methodLink RL 60 yX7_all, Cond.instanceMethod yX7_all, Cond.selects RX7 yX7_all yX7_all, Cond.code yX7_all cX7_all 3 (some .int), Cond.methodLink RX7 168 yX0_ofSort, Cond.instanceMethod yX0_ofSort, Cond.selects RX0 yX0_ofSort yX0_ofSort, Cond.code yX0_ofSort cX0_ofSort 3 (some .int), Cond.methodLink RL 63 yX8_all, Cond.instanceMethod yX8_all]
def wsL_law_r26 : List Cond := [Cond.selects RX8 yX8_all yX8_all, Cond.code yX8_all cX8_all 5 (some .int), Cond.methodLink RL 64 yX7_spans, Cond.instanceMethod yX7_spans, Cond.selects RX7 yX7_spans yX7_spans, Cond.code yX7_spans cX7_spans 3 (some .int), Cond.methodLink RX7 171 yX5_take, Cond.instanceMethod yX5_take, Cond.selects RX5 yX5_take yX5_take, Cond.code yX5_take cX5_take 7 none, Cond.methodLink RX5 38 yX5_total, Cond.instanceMethod yX5_total, Cond.selects RX5 yX5_total yX5_total, Cond.code yX5_total cX5_total 3 (some .int), Cond.methodLink RX5 32 yX4_at, Cond.methodLink RX5 48 yX6_resultAt, Cond.methodLink RX5 54 yX4_addOne, Cond.methodLink RX7 173 yX5_total, Cond.methodLink RL 67 yX8_spans, Cond.instanceMethod yX8_spans, Cond.selects RX8 yX8_spans yX8_spans, Cond.code yX8_spans cX8_spans 3 (some .int), Cond.fieldLink RX8 187 "HardBenchModel" "spanMany" "I", Cond.methodLink RX8 190 yX8_findSpans]
def wsL_law_r27 : List Cond := [Cond.instanceMethod yX8_findSpans, Cond.selects RX8 yX8_findSpans yX8_findSpans, Cond.code yX8_findSpans cX8_findSpans 6 none, Cond.fieldLink RX8 184 "HardBenchModel" "spanRounding" "I", Cond.methodLink RL 68 yX7_span, Cond.instanceMethod yX7_span, Cond.selects RX7 yX7_span yX7_span, Cond.code yX7_span cX7_span 6 (some .int), Cond.methodLink RX7 176 yX1_greatestPlain, Cond.methodLink RX7 179 yX5_firstCode, Cond.instanceMethod yX5_firstCode, Cond.selects RX5 yX5_firstCode yX5_firstCode, Cond.code yX5_firstCode cX5_firstCode 11 (some .int), Cond.methodLink RX5 57 Lib.Math.max.name, Cond.methodLink RL 72 yX8_span, Cond.instanceMethod yX8_span, Cond.selects RX8 yX8_span yX8_span, Cond.code yX8_span cX8_span 5 (some .int), Cond.methodLink RL 73 yX7_table, Cond.instanceMethod yX7_table, Cond.selects RX7 yX7_table yX7_table, Cond.code yX7_table cX7_table 6 (some .int), Cond.methodLink RX7 182 yX1_isPower, Cond.instanceMethod yX1_isPower]
def wsL_law_r28 : List Cond := [Cond.selects RX1 yX1_isPower yX1_isPower, Cond.code yX1_isPower cX1_isPower 2 (some .boolean), Cond.methodLink RX7 185 yX2_readDue, Cond.instanceMethod yX2_readDue, Cond.selects RX2 yX2_readDue yX2_readDue, Cond.code yX2_readDue cX2_readDue 5 none, Cond.methodLink RX2 46 yX1_zs, Cond.methodLink RX2 68 yX1_codeOf, Cond.instanceMethod yX1_codeOf, Cond.selects RX1 yX1_codeOf yX1_codeOf, Cond.code yX1_codeOf cX1_codeOf 3 (some .int), Cond.methodLink RX2 72 yX6_resultAt, Cond.methodLink RX2 78 yX4_put, Cond.methodLink RX7 189 yX2_cutParts, Cond.instanceMethod yX2_cutParts, Cond.selects RX2 yX2_cutParts yX2_cutParts, Cond.code yX2_cutParts cX2_cutParts 5 none, Cond.fieldLink RX2 61 "HardBench$Lines" "s" "I", Cond.methodLink RX2 82 yX2_widen, Cond.instanceMethod yX2_widen, Cond.selects RX2 yX2_widen yX2_widen, Cond.code yX2_widen cX2_widen 2 none, Cond.constantLong RX2 94 (-1099511627776), Cond.fieldLink RX2 96 "HardBench$Lines" "least" "J"]
def wsL_law_r29 : List Cond := [Cond.constantLong RX2 100 (1099511627776), Cond.fieldLink RX2 102 "HardBench$Lines" "greatest" "J", Cond.methodLink RX2 86 yX2_narrow, Cond.instanceMethod yX2_narrow, Cond.selects RX2 yX2_narrow yX2_narrow, Cond.code yX2_narrow cX2_narrow 12 (some .boolean), Cond.methodLink RX2 109 Lib.MathLoose.max_long.x, Cond.static Lib.MathLoose.max_long.x, Cond.code Lib.MathLoose.max_long.x Lib.MathLoose.max_long.code 4 (some .long), Cond.methodLink RX2 114 Lib.MathLoose.min_long.x, Cond.static Lib.MathLoose.min_long.x, Cond.code Lib.MathLoose.min_long.x Lib.MathLoose.min_long.code 4 (some .long), Cond.methodLink RX2 36 yX4_at, Cond.methodLink RX2 105 yX2_floorBy, Cond.static yX2_floorBy, Cond.code yX2_floorBy cX2_floorBy 4 (some .long), Cond.methodLink RX2 117 yJ9_floorDiv_f86c9, Cond.static yJ9_floorDiv_f86c9, Cond.code yJ9_floorDiv_f86c9 cJ9_floorDiv_f86c9 6 (some .long), Cond.methodLink RX2 90 yX2_closePart, Cond.instanceMethod yX2_closePart, Cond.selects RX2 yX2_closePart yX2_closePart, Cond.code yX2_closePart cX2_closePart 8 none, Cond.methodLink RX2 120 yX2_leastStart]
def wsL_law_r30 : List Cond := [Cond.instanceMethod yX2_leastStart, Cond.selects RX2 yX2_leastStart yX2_leastStart, Cond.code yX2_leastStart cX2_leastStart 4 (some .long), Cond.methodLink RX7 192 yX2_parts, Cond.instanceMethod yX2_parts, Cond.selects RX2 yX2_parts yX2_parts, Cond.code yX2_parts cX2_parts 1 (some .int), Cond.methodLink RL 77 yX8_table, Cond.instanceMethod yX8_table, Cond.selects RX8 yX8_table yX8_table, Cond.code yX8_table cX8_table 8 (some .int), Cond.fieldLink RX8 196 "HardBenchModel" "shift" "I", Cond.methodLink RX8 193 yX8_isPower, Cond.instanceMethod yX8_isPower, Cond.selects RX8 yX8_isPower yX8_isPower, Cond.code yX8_isPower cX8_isPower 2 (some .boolean), Cond.methodLink RX8 199 yX8_flat, Cond.instanceMethod yX8_flat, Cond.selects RX8 yX8_flat yX8_flat, Cond.code yX8_flat cX8_flat 4 (some .int), Cond.methodLink RX8 205 yX8_lays, Cond.instanceMethod yX8_lays, Cond.selects RX8 yX8_lays yX8_lays, Cond.code yX8_lays cX8_lays 7 none]
def wsL_law_r31 : List Cond := [Cond.methodLink RX8 202 yX8_line, Cond.instanceMethod yX8_line, Cond.selects RX8 yX8_line yX8_line, Cond.code yX8_line cX8_line 18 (some .int), Cond.constantLong RX8 209 (-1000000000000), Cond.constantLong RX8 211 (1000000000000), Cond.methodLink RX8 217 Lib.MathLoose.min_long.x, Cond.methodLink RX8 220 Lib.MathLoose.max_long.x, Cond.methodLink RX8 213 yJ9_floorDiv_f86c9, Cond.methodLink RL 78 yX7_part, Cond.instanceMethod yX7_part, Cond.selects RX7 yX7_part yX7_part, Cond.code yX7_part cX7_part 3 (some .int), Cond.methodLink RX7 195 yX2_firstZ, Cond.instanceMethod yX2_firstZ, Cond.selects RX2 yX2_firstZ yX2_firstZ, Cond.code yX2_firstZ cX2_firstZ 2 (some .int), Cond.methodLink RX7 198 yX2_lastZ, Cond.instanceMethod yX2_lastZ, Cond.selects RX2 yX2_lastZ yX2_lastZ, Cond.code yX2_lastZ cX2_lastZ 2 (some .int), Cond.methodLink RX2 42 yX2_firstZ, Cond.methodLink RX7 201 yX2_lineStart, Cond.instanceMethod yX2_lineStart]
def wsL_law_r32 : List Cond := [Cond.selects RX2 yX2_lineStart yX2_lineStart, Cond.code yX2_lineStart cX2_lineStart 2 (some .int), Cond.methodLink RX7 204 yX2_lineSlope, Cond.instanceMethod yX2_lineSlope, Cond.selects RX2 yX2_lineSlope yX2_lineSlope, Cond.code yX2_lineSlope cX2_lineSlope 2 (some .int), Cond.methodLink RL 81 yX8_part, Cond.instanceMethod yX8_part, Cond.selects RX8 yX8_part yX8_part, Cond.code yX8_part cX8_part 3 (some .int), Cond.methodLink RL 82 yX7_look, Cond.instanceMethod yX7_look, Cond.selects RX7 yX7_look yX7_look, Cond.code yX7_look cX7_look 2 (some .int), Cond.methodLink RX7 207 yX1_isZ, Cond.instanceMethod yX1_isZ, Cond.selects RX1 yX1_isZ yX1_isZ, Cond.code yX1_isZ cX1_isZ 2 (some .boolean), Cond.methodLink RX7 210 yX2_toldFor, Cond.instanceMethod yX2_toldFor, Cond.selects RX2 yX2_toldFor yX2_toldFor, Cond.code yX2_toldFor cX2_toldFor 3 (some .int), Cond.methodLink RX2 52 yX2_lastZ, Cond.methodLink RX2 55 yX2_lineStart]
def wsL_law_r33 : List Cond := [Cond.methodLink RX2 58 yX2_lineSlope, Cond.methodLink RX2 64 yX2_onLine, Cond.static yX2_onLine, Cond.code yX2_onLine cX2_onLine 7 (some .long), Cond.methodLink RL 85 yX8_look, Cond.instanceMethod yX8_look, Cond.selects RX8 yX8_look yX8_look, Cond.code yX8_look cX8_look 3 (some .int), Cond.methodLink RL 86 yX7_fits, Cond.instanceMethod yX7_fits, Cond.selects RX7 yX7_fits yX7_fits, Cond.code yX7_fits cX7_fits 12 (some .int), Cond.constant RX7 213 (-1000000000), Cond.methodLink RX7 215 yX1_codeOf, Cond.methodLink RX7 218 yX2_onLine, Cond.methodLink RL 90 yX8_fits, Cond.instanceMethod yX8_fits, Cond.selects RX8 yX8_fits yX8_fits, Cond.code yX8_fits cX8_fits 10 (some .int), Cond.constant RX8 222 (-1000000000), Cond.methodLink RL 91 yX7_status, Cond.instanceMethod yX7_status, Cond.selects RX7 yX7_status yX7_status, Cond.code yX7_status cX7_status 2 (some .int)]
def wsL_law_r34 : List Cond := [Cond.methodLink RX7 222 yX4_at, Cond.methodLink RL 94 yX8_status, Cond.instanceMethod yX8_status, Cond.selects RX8 yX8_status yX8_status, Cond.code yX8_status cX8_status 2 (some .int)]
def wsL_law : List Cond := (wsL_law_r1 ++ (wsL_law_r2 ++ (wsL_law_r3 ++ (wsL_law_r4 ++ (wsL_law_r5 ++ (wsL_law_r6 ++ (wsL_law_r7 ++ (wsL_law_r8 ++ (wsL_law_r9 ++ (wsL_law_r10 ++ (wsL_law_r11 ++ (wsL_law_r12 ++ (wsL_law_r13 ++ (wsL_law_r14 ++ (wsL_law_r15 ++ (wsL_law_r16 ++ (wsL_law_r17 ++ (wsL_law_r18 ++ (wsL_law_r19 ++ (wsL_law_r20 ++ (wsL_law_r21 ++ (wsL_law_r22 ++ (wsL_law_r23 ++ (wsL_law_r24 ++ (wsL_law_r25 ++ (wsL_law_r26 ++ (wsL_law_r27 ++ (wsL_law_r28 ++ (wsL_law_r29 ++ (wsL_law_r30 ++ (wsL_law_r31 ++ (wsL_law_r32 ++ (wsL_law_r33 ++ wsL_law_r34))))))))))))))))))))))))))))))))) ++ wsX70 ++ wsX80 ++ wsX10 ++ wsX30 ++ wsX60 ++ wsX00 ++ wsX50 ++ wsX20 ++ ([] : List Cond)
set_option maxRecDepth 20000 in
theorem lwg_wsL_law_r1 : wsL_law_r1.all goodWord = true := by decide +kernel
set_option maxRecDepth 20000 in
theorem lwi_wsL_law_r1 : ∀ w ∈ wsL_law_r1, w ∈ lw_tbl := fun w h => (goodIn_r wsL_law_r1 [57, 58, 44, 711, 712, 51, 59, 60, 61, 62, 63, 64, 65, 66, 45, 247, 104, 105, 46, 248, 126, 127, 47, 249] (by decide +kernel) lwg_wsL_law_r1 w h).1
set_option maxRecDepth 20000 in
theorem lwg_wsL_law_r2 : wsL_law_r2.all goodWord = true := by decide +kernel
set_option maxRecDepth 20000 in
theorem lwi_wsL_law_r2 : ∀ w ∈ wsL_law_r2, w ∈ lw_tbl := fun w h => (goodIn_r wsL_law_r2 [162, 163, 48, 250, 191, 192, 49, 251, 210, 211, 50, 252, 190, 253, 67, 68, 69, 70, 71, 72, 73, 74, 75, 77] (by decide +kernel) lwg_wsL_law_r2 w h).1
set_option maxRecDepth 20000 in
theorem lwg_wsL_law_r3 : wsL_law_r3.all goodWord = true := by decide +kernel
set_option maxRecDepth 20000 in
theorem lwi_wsL_law_r3 : ∀ w ∈ wsL_law_r3, w ∈ lw_tbl := fun w h => (goodIn_r wsL_law_r3 [81, 82, 85, 88, 106, 107, 108, 109, 110, 128, 129, 130, 131, 134, 132, 135, 133, 164, 165, 166, 167, 168, 169, 170] (by decide +kernel) lwg_wsL_law_r3 w h).1
set_option maxRecDepth 20000 in
theorem lwg_wsL_law_r4 : wsL_law_r4.all goodWord = true := by decide +kernel
set_option maxRecDepth 20000 in
theorem lwi_wsL_law_r4 : ∀ w ∈ wsL_law_r4, w ∈ lw_tbl := fun w h => (goodIn_r wsL_law_r4 [171, 172, 173, 174, 193, 194, 195, 196, 197, 198, 199, 200, 212, 213, 214, 215, 216, 217, 218, 219, 220, 221, 713, 714] (by decide +kernel) lwg_wsL_law_r4 w h).1
set_option maxRecDepth 20000 in
theorem lwg_wsL_law_r5 : wsL_law_r5.all goodWord = true := by decide +kernel
set_option maxRecDepth 20000 in
theorem lwi_wsL_law_r5 : ∀ w ∈ wsL_law_r5, w ∈ lw_tbl := fun w h => (goodIn_r wsL_law_r5 [715, 716, 722, 798, 732, 717, 733, 734, 738, 739, 742, 743, 799, 744, 745, 746, 718, 720, 16, 721, 723, 724, 725, 727] (by decide +kernel) lwg_wsL_law_r5 w h).1
set_option maxRecDepth 20000 in
theorem lwg_wsL_law_r6 : wsL_law_r6.all goodWord = true := by decide +kernel
set_option maxRecDepth 20000 in
theorem lwi_wsL_law_r6 : ∀ w ∈ wsL_law_r6, w ∈ lw_tbl := fun w h => (goodIn_r wsL_law_r6 [726, 728, 740, 735, 269, 270, 271, 272, 273, 275, 0, 276, 277, 278, 52, 279, 280, 281, 282, 283, 284, 285, 286, 287] (by decide +kernel) lwg_wsL_law_r6 w h).1
set_option maxRecDepth 20000 in
theorem lwg_wsL_law_r7 : wsL_law_r7.all goodWord = true := by decide +kernel
set_option maxRecDepth 20000 in
theorem lwi_wsL_law_r7 : ∀ w ∈ wsL_law_r7, w ∈ lw_tbl := fun w h => (goodIn_r wsL_law_r7 [288, 289, 290, 291, 292, 53, 293, 294, 295, 296, 297, 298, 299, 300, 301, 302, 222, 800, 801, 802, 803, 804, 806, 17] (by decide +kernel) lwg_wsL_law_r7 w h).1
set_option maxRecDepth 20000 in
theorem lwg_wsL_law_r8 : wsL_law_r8.all goodWord = true := by decide +kernel
set_option maxRecDepth 20000 in
theorem lwi_wsL_law_r8 : ∀ w ∈ wsL_law_r8, w ∈ lw_tbl := fun w h => (goodIn_r wsL_law_r8 [807, 303, 304, 305, 306, 307, 308, 309, 310, 311, 313, 1, 314, 315, 316, 317, 318, 319, 320, 321, 322, 323, 324, 325] (by decide +kernel) lwg_wsL_law_r8 w h).1
set_option maxRecDepth 20000 in
theorem lwg_wsL_law_r9 : wsL_law_r9.all goodWord = true := by decide +kernel
set_option maxRecDepth 20000 in
theorem lwi_wsL_law_r9 : ∀ w ∈ wsL_law_r9, w ∈ lw_tbl := fun w h => (goodIn_r wsL_law_r9 [326, 327, 328, 329, 330, 331, 332, 333, 334, 335, 336, 337, 338, 339, 340, 341, 342, 343, 344, 345, 346, 347, 348, 349] (by decide +kernel) lwg_wsL_law_r9 w h).1
set_option maxRecDepth 20000 in
theorem lwg_wsL_law_r10 : wsL_law_r10.all goodWord = true := by decide +kernel
set_option maxRecDepth 20000 in
theorem lwi_wsL_law_r10 : ∀ w ∈ wsL_law_r10, w ∈ lw_tbl := fun w h => (goodIn_r wsL_law_r10 [350, 351, 352, 353, 354, 355, 356, 357, 358, 359, 360, 361, 362, 363, 364, 54, 365, 366, 367, 368, 369, 370, 371, 372] (by decide +kernel) lwg_wsL_law_r10 w h).1
set_option maxRecDepth 20000 in
theorem lwg_wsL_law_r11 : wsL_law_r11.all goodWord = true := by decide +kernel
set_option maxRecDepth 20000 in
theorem lwi_wsL_law_r11 : ∀ w ∈ wsL_law_r11, w ∈ lw_tbl := fun w h => (goodIn_r wsL_law_r11 [373, 374, 375, 376, 55, 377, 808, 809, 810, 811, 812, 814, 18, 815, 816, 817, 818, 819, 821, 19, 822, 823, 824, 826] (by decide +kernel) lwg_wsL_law_r11 w h).1
set_option maxRecDepth 20000 in
theorem lwg_wsL_law_r12 : wsL_law_r12.all goodWord = true := by decide +kernel
set_option maxRecDepth 20000 in
theorem lwi_wsL_law_r12 : ∀ w ∈ wsL_law_r12, w ∈ lw_tbl := fun w h => (goodIn_r wsL_law_r12 [20, 827, 828, 830, 21, 831, 832, 834, 22, 835, 836, 838, 23, 839, 840, 842, 24, 843, 378, 379, 380, 381, 382, 383] (by decide +kernel) lwg_wsL_law_r12 w h).1
set_option maxRecDepth 20000 in
theorem lwg_wsL_law_r13 : wsL_law_r13.all goodWord = true := by decide +kernel
set_option maxRecDepth 20000 in
theorem lwi_wsL_law_r13 : ∀ w ∈ wsL_law_r13, w ∈ lw_tbl := fun w h => (goodIn_r wsL_law_r13 [384, 385, 386, 387, 388, 389, 390, 844, 845, 846, 847, 391, 392, 393, 394, 396, 397, 398, 399, 395, 848, 849, 850, 851] (by decide +kernel) lwg_wsL_law_r13 w h).1
set_option maxRecDepth 20000 in
theorem lwg_wsL_law_r14 : wsL_law_r14.all goodWord = true := by decide +kernel
set_option maxRecDepth 20000 in
theorem lwi_wsL_law_r14 : ∀ w ∈ wsL_law_r14, w ∈ lw_tbl := fun w h => (goodIn_r wsL_law_r14 [856, 852, 854, 25, 855, 400, 401, 402, 403, 407, 408, 404, 405, 406, 409, 410, 411, 412, 419, 113, 112, 114, 111, 413] (by decide +kernel) lwg_wsL_law_r14 w h).1
set_option maxRecDepth 20000 in
theorem lwg_wsL_law_r15 : wsL_law_r15.all goodWord = true := by decide +kernel
set_option maxRecDepth 20000 in
theorem lwi_wsL_law_r15 : ∀ w ∈ wsL_law_r15, w ∈ lw_tbl := fun w h => (goodIn_r wsL_law_r15 [414, 56, 415, 416, 417, 418, 420, 421, 422, 423, 424, 425, 426, 427, 428, 429, 430, 431, 433, 2, 434, 435, 436, 437] (by decide +kernel) lwg_wsL_law_r15 w h).1
set_option maxRecDepth 20000 in
theorem lwg_wsL_law_r16 : wsL_law_r16.all goodWord = true := by decide +kernel
set_option maxRecDepth 20000 in
theorem lwi_wsL_law_r16 : ∀ w ∈ wsL_law_r16, w ∈ lw_tbl := fun w h => (goodIn_r wsL_law_r16 [438, 857, 858, 859, 860, 861, 862, 729, 731, 730, 863, 865, 26, 866, 867, 869, 27, 870, 871, 873, 28, 874, 875, 876] (by decide +kernel) lwg_wsL_law_r16 w h).1
set_option maxRecDepth 20000 in
theorem lwg_wsL_law_r17 : wsL_law_r17.all goodWord = true := by decide +kernel
set_option maxRecDepth 20000 in
theorem lwi_wsL_law_r17 : ∀ w ∈ wsL_law_r17, w ∈ lw_tbl := fun w h => (goodIn_r wsL_law_r17 [877, 878, 879, 880, 881, 883, 29, 884, 885, 887, 30, 888, 889, 439, 440, 441, 442, 443, 444, 445, 446, 447, 448, 449] (by decide +kernel) lwg_wsL_law_r17 w h).1
set_option maxRecDepth 20000 in
theorem lwg_wsL_law_r18 : wsL_law_r18.all goodWord = true := by decide +kernel
set_option maxRecDepth 20000 in
theorem lwi_wsL_law_r18 : ∀ w ∈ wsL_law_r18, w ∈ lw_tbl := fun w h => (goodIn_r wsL_law_r18 [139, 140, 141, 450, 451, 452, 453, 136, 137, 138, 142, 454, 455, 456, 457, 458, 459, 461, 3, 462, 463, 465, 4, 466] (by decide +kernel) lwg_wsL_law_r18 w h).1
set_option maxRecDepth 20000 in
theorem lwg_wsL_law_r19 : wsL_law_r19.all goodWord = true := by decide +kernel
set_option maxRecDepth 20000 in
theorem lwi_wsL_law_r19 : ∀ w ∈ wsL_law_r19, w ∈ lw_tbl := fun w h => (goodIn_r wsL_law_r19 [467, 468, 470, 5, 471, 472, 474, 6, 475, 476, 477, 478, 55, 479, 480, 481, 482, 483, 485, 7, 486, 487, 488, 489] (by decide +kernel) lwg_wsL_law_r19 w h).1
set_option maxRecDepth 20000 in
theorem lwg_wsL_law_r20 : wsL_law_r20.all goodWord = true := by decide +kernel
set_option maxRecDepth 20000 in
theorem lwi_wsL_law_r20 : ∀ w ∈ wsL_law_r20, w ∈ lw_tbl := fun w h => (goodIn_r wsL_law_r20 [491, 8, 492, 493, 494, 495, 496, 497, 498, 890, 891, 892, 893, 894, 895, 896, 897, 899, 31, 900, 901, 903, 32, 904] (by decide +kernel) lwg_wsL_law_r20 w h).1
set_option maxRecDepth 20000 in
theorem lwg_wsL_law_r21 : wsL_law_r21.all goodWord = true := by decide +kernel
set_option maxRecDepth 20000 in
theorem lwi_wsL_law_r21 : ∀ w ∈ wsL_law_r21, w ∈ lw_tbl := fun w h => (goodIn_r wsL_law_r21 [905, 907, 33, 908, 499, 500, 501, 502, 503, 504, 505, 506, 507, 909, 910, 911, 912, 913, 915, 34, 916, 508, 509, 510] (by decide +kernel) lwg_wsL_law_r21 w h).1
set_option maxRecDepth 20000 in
theorem lwg_wsL_law_r22 : wsL_law_r22.all goodWord = true := by decide +kernel
set_option maxRecDepth 20000 in
theorem lwi_wsL_law_r22 : ∀ w ∈ wsL_law_r22, w ∈ lw_tbl := fun w h => (goodIn_r wsL_law_r22 [511, 512, 513, 514, 515, 516, 517, 518, 519, 917, 918, 919, 920, 921, 923, 35, 924, 520, 521, 522, 523, 524, 525, 526] (by decide +kernel) lwg_wsL_law_r22 w h).1
set_option maxRecDepth 20000 in
theorem lwg_wsL_law_r23 : wsL_law_r23.all goodWord = true := by decide +kernel
set_option maxRecDepth 20000 in
theorem lwi_wsL_law_r23 : ∀ w ∈ wsL_law_r23, w ∈ lw_tbl := fun w h => (goodIn_r wsL_law_r23 [527, 528, 925, 926, 927, 928, 929, 931, 36, 932, 529, 530, 531, 532, 533, 534, 535, 536, 537, 538, 539, 540, 541, 542] (by decide +kernel) lwg_wsL_law_r23 w h).1
set_option maxRecDepth 20000 in
theorem lwg_wsL_law_r24 : wsL_law_r24.all goodWord = true := by decide +kernel
set_option maxRecDepth 20000 in
theorem lwi_wsL_law_r24 : ∀ w ∈ wsL_law_r24, w ∈ lw_tbl := fun w h => (goodIn_r wsL_law_r24 [543, 545, 9, 546, 547, 548, 549, 550, 551, 553, 10, 554, 555, 556, 557, 558, 559, 561, 11, 562, 933, 934, 935, 936] (by decide +kernel) lwg_wsL_law_r24 w h).1
set_option maxRecDepth 20000 in
theorem lwg_wsL_law_r25 : wsL_law_r25.all goodWord = true := by decide +kernel
set_option maxRecDepth 20000 in
theorem lwi_wsL_law_r25 : ∀ w ∈ wsL_law_r25, w ∈ lw_tbl := fun w h => (goodIn_r wsL_law_r25 [941, 937, 939, 37, 940, 563, 564, 565, 566, 567, 942, 943, 944, 945, 568, 569, 570, 571, 572, 573, 574, 575, 946, 947] (by decide +kernel) lwg_wsL_law_r25 w h).1
set_option maxRecDepth 20000 in
theorem lwg_wsL_law_r26 : wsL_law_r26.all goodWord = true := by decide +kernel
set_option maxRecDepth 20000 in
theorem lwi_wsL_law_r26 : ∀ w ∈ wsL_law_r26, w ∈ lw_tbl := fun w h => (goodIn_r wsL_law_r26 [948, 949, 576, 577, 578, 579, 580, 581, 582, 583, 584, 585, 586, 587, 588, 589, 590, 591, 950, 951, 952, 953, 737, 954] (by decide +kernel) lwg_wsL_law_r26 w h).1
set_option maxRecDepth 20000 in
theorem lwg_wsL_law_r27 : wsL_law_r27.all goodWord = true := by decide +kernel
set_option maxRecDepth 20000 in
theorem lwi_wsL_law_r27 : ∀ w ∈ wsL_law_r27, w ∈ lw_tbl := fun w h => (goodIn_r wsL_law_r27 [956, 38, 957, 736, 592, 593, 594, 595, 596, 597, 598, 599, 600, 601, 958, 959, 960, 961, 602, 603, 604, 605, 606, 607] (by decide +kernel) lwg_wsL_law_r27 w h).1
set_option maxRecDepth 20000 in
theorem lwg_wsL_law_r28 : wsL_law_r28.all goodWord = true := by decide +kernel
set_option maxRecDepth 20000 in
theorem lwi_wsL_law_r28 : ∀ w ∈ wsL_law_r28, w ∈ lw_tbl := fun w h => (goodIn_r wsL_law_r28 [608, 609, 610, 611, 612, 613, 614, 615, 616, 617, 618, 619, 620, 621, 622, 623, 624, 223, 625, 627, 12, 628, 629, 224] (by decide +kernel) lwg_wsL_law_r28 w h).1
set_option maxRecDepth 20000 in
theorem lwg_wsL_law_r29 : wsL_law_r29.all goodWord = true := by decide +kernel
set_option maxRecDepth 20000 in
theorem lwi_wsL_law_r29 : ∀ w ∈ wsL_law_r29, w ∈ lw_tbl := fun w h => (goodIn_r wsL_law_r29 [630, 225, 631, 633, 13, 634, 642, 643, 644, 645, 646, 647, 635, 636, 637, 638, 639, 640, 641, 648, 650, 14, 651, 652] (by decide +kernel) lwg_wsL_law_r29 w h).1
set_option maxRecDepth 20000 in
theorem lwg_wsL_law_r30 : wsL_law_r30.all goodWord = true := by decide +kernel
set_option maxRecDepth 20000 in
theorem lwi_wsL_law_r30 : ∀ w ∈ wsL_law_r30, w ∈ lw_tbl := fun w h => (goodIn_r wsL_law_r30 [654, 15, 655, 656, 657, 658, 659, 962, 963, 964, 965, 741, 966, 968, 39, 969, 970, 972, 40, 973, 974, 976, 41, 977] (by decide +kernel) lwg_wsL_law_r30 w h).1
set_option maxRecDepth 20000 in
theorem lwg_wsL_law_r31 : wsL_law_r31.all goodWord = true := by decide +kernel
set_option maxRecDepth 20000 in
theorem lwi_wsL_law_r31 : ∀ w ∈ wsL_law_r31, w ∈ lw_tbl := fun w h => (goodIn_r wsL_law_r31 [978, 980, 42, 981, 982, 983, 985, 986, 984, 660, 661, 662, 663, 664, 665, 666, 667, 668, 669, 670, 671, 672, 673, 674] (by decide +kernel) lwg_wsL_law_r31 w h).1
set_option maxRecDepth 20000 in
theorem lwg_wsL_law_r32 : wsL_law_r32.all goodWord = true := by decide +kernel
set_option maxRecDepth 20000 in
theorem lwi_wsL_law_r32 : ∀ w ∈ wsL_law_r32, w ∈ lw_tbl := fun w h => (goodIn_r wsL_law_r32 [675, 676, 677, 678, 679, 680, 987, 988, 989, 990, 681, 682, 683, 684, 685, 686, 687, 688, 689, 690, 691, 692, 693, 694] (by decide +kernel) lwg_wsL_law_r32 w h).1
set_option maxRecDepth 20000 in
theorem lwg_wsL_law_r33 : wsL_law_r33.all goodWord = true := by decide +kernel
set_option maxRecDepth 20000 in
theorem lwi_wsL_law_r33 : ∀ w ∈ wsL_law_r33, w ∈ lw_tbl := fun w h => (goodIn_r wsL_law_r33 [695, 696, 697, 698, 991, 992, 993, 994, 699, 700, 701, 702, 703, 704, 705, 995, 996, 997, 998, 999, 706, 707, 708, 709] (by decide +kernel) lwg_wsL_law_r33 w h).1
set_option maxRecDepth 20000 in
theorem lwg_wsL_law_r34 : wsL_law_r34.all goodWord = true := by decide +kernel
set_option maxRecDepth 20000 in
theorem lwi_wsL_law_r34 : ∀ w ∈ wsL_law_r34, w ∈ lw_tbl := fun w h => (goodIn_r wsL_law_r34 [710, 1000, 1001, 1002, 1003] (by decide +kernel) lwg_wsL_law_r34 w h).1
set_option maxRecDepth 20000 in
theorem lwg_wsX70 : wsX70.all goodWord = true := by decide +kernel
set_option maxRecDepth 20000 in
theorem lwi_wsX70 : ∀ w ∈ wsX70, w ∈ lw_tbl := fun w h => (goodIn_r wsX70 [254, 256, 258, 260, 262, 264, 266] (by decide +kernel) lwg_wsX70 w h).1
set_option maxRecDepth 20000 in
theorem lwg_wsX80 : wsX80.all goodWord = true := by decide +kernel
set_option maxRecDepth 20000 in
theorem lwi_wsX80 : ∀ w ∈ wsX80, w ∈ lw_tbl := fun w h => (goodIn_r wsX80 [747, 749, 751, 753, 755, 757, 759, 761, 763, 765, 767, 769, 771, 773, 775, 777, 779, 781, 783, 785, 787, 789, 791, 793, 795] (by decide +kernel) lwg_wsX80 w h).1
set_option maxRecDepth 20000 in
theorem lwg_wsX10 : wsX10.all goodWord = true := by decide +kernel
set_option maxRecDepth 20000 in
theorem lwi_wsX10 : ∀ w ∈ wsX10, w ∈ lw_tbl := fun w h => (goodIn_r wsX10 [91, 93, 95, 97, 99, 101] (by decide +kernel) lwg_wsX10 w h).1
set_option maxRecDepth 20000 in
theorem lwg_wsX30 : wsX30.all goodWord = true := by decide +kernel
set_option maxRecDepth 20000 in
theorem lwi_wsX30 : ∀ w ∈ wsX30, w ∈ lw_tbl := fun w h => (goodIn_r wsX30 [115, 117, 119, 121, 123] (by decide +kernel) lwg_wsX30 w h).1
set_option maxRecDepth 20000 in
theorem lwg_wsX60 : wsX60.all goodWord = true := by decide +kernel
set_option maxRecDepth 20000 in
theorem lwi_wsX60 : ∀ w ∈ wsX60, w ∈ lw_tbl := fun w h => (goodIn_r wsX60 [143, 145, 147, 149, 151, 153, 155, 157, 159] (by decide +kernel) lwg_wsX60 w h).1
set_option maxRecDepth 20000 in
theorem lwg_wsX00 : wsX00.all goodWord = true := by decide +kernel
set_option maxRecDepth 20000 in
theorem lwi_wsX00 : ∀ w ∈ wsX00, w ∈ lw_tbl := fun w h => (goodIn_r wsX00 [175, 177, 179, 181, 183, 185, 187] (by decide +kernel) lwg_wsX00 w h).1
set_option maxRecDepth 20000 in
theorem lwg_wsX50 : wsX50.all goodWord = true := by decide +kernel
set_option maxRecDepth 20000 in
theorem lwi_wsX50 : ∀ w ∈ wsX50, w ∈ lw_tbl := fun w h => (goodIn_r wsX50 [201, 203, 205, 207] (by decide +kernel) lwg_wsX50 w h).1
set_option maxRecDepth 20000 in
theorem lwg_wsX20 : wsX20.all goodWord = true := by decide +kernel
set_option maxRecDepth 20000 in
theorem lwi_wsX20 : ∀ w ∈ wsX20, w ∈ lw_tbl := fun w h => (goodIn_r wsX20 [226, 228, 230, 232, 234, 236, 238, 240, 242, 244] (by decide +kernel) lwg_wsX20 w h).1
theorem wsL_law_in : ∀ w ∈ wsL_law, w ∈ lw_tbl := by
  show ∀ w ∈ (wsL_law_r1 ++ (wsL_law_r2 ++ (wsL_law_r3 ++ (wsL_law_r4 ++ (wsL_law_r5 ++ (wsL_law_r6 ++ (wsL_law_r7 ++ (wsL_law_r8 ++ (wsL_law_r9 ++ (wsL_law_r10 ++ (wsL_law_r11 ++ (wsL_law_r12 ++ (wsL_law_r13 ++ (wsL_law_r14 ++ (wsL_law_r15 ++ (wsL_law_r16 ++ (wsL_law_r17 ++ (wsL_law_r18 ++ (wsL_law_r19 ++ (wsL_law_r20 ++ (wsL_law_r21 ++ (wsL_law_r22 ++ (wsL_law_r23 ++ (wsL_law_r24 ++ (wsL_law_r25 ++ (wsL_law_r26 ++ (wsL_law_r27 ++ (wsL_law_r28 ++ (wsL_law_r29 ++ (wsL_law_r30 ++ (wsL_law_r31 ++ (wsL_law_r32 ++ (wsL_law_r33 ++ wsL_law_r34))))))))))))))))))))))))))))))))) ++ wsX70 ++ wsX80 ++ wsX10 ++ wsX30 ++ wsX60 ++ wsX00 ++ wsX50 ++ wsX20 ++ ([] : List Cond), w ∈ lw_tbl
  exact List.forall_mem_append.mpr ⟨List.forall_mem_append.mpr ⟨List.forall_mem_append.mpr ⟨List.forall_mem_append.mpr ⟨List.forall_mem_append.mpr ⟨List.forall_mem_append.mpr ⟨List.forall_mem_append.mpr ⟨List.forall_mem_append.mpr ⟨List.forall_mem_append.mpr ⟨List.forall_mem_append.mpr ⟨lwi_wsL_law_r1, List.forall_mem_append.mpr ⟨lwi_wsL_law_r2, List.forall_mem_append.mpr ⟨lwi_wsL_law_r3, List.forall_mem_append.mpr ⟨lwi_wsL_law_r4, List.forall_mem_append.mpr ⟨lwi_wsL_law_r5, List.forall_mem_append.mpr ⟨lwi_wsL_law_r6, List.forall_mem_append.mpr ⟨lwi_wsL_law_r7, List.forall_mem_append.mpr ⟨lwi_wsL_law_r8, List.forall_mem_append.mpr ⟨lwi_wsL_law_r9, List.forall_mem_append.mpr ⟨lwi_wsL_law_r10, List.forall_mem_append.mpr ⟨lwi_wsL_law_r11, List.forall_mem_append.mpr ⟨lwi_wsL_law_r12, List.forall_mem_append.mpr ⟨lwi_wsL_law_r13, List.forall_mem_append.mpr ⟨lwi_wsL_law_r14, List.forall_mem_append.mpr ⟨lwi_wsL_law_r15, List.forall_mem_append.mpr ⟨lwi_wsL_law_r16, List.forall_mem_append.mpr ⟨lwi_wsL_law_r17, List.forall_mem_append.mpr ⟨lwi_wsL_law_r18, List.forall_mem_append.mpr ⟨lwi_wsL_law_r19, List.forall_mem_append.mpr ⟨lwi_wsL_law_r20, List.forall_mem_append.mpr ⟨lwi_wsL_law_r21, List.forall_mem_append.mpr ⟨lwi_wsL_law_r22, List.forall_mem_append.mpr ⟨lwi_wsL_law_r23, List.forall_mem_append.mpr ⟨lwi_wsL_law_r24, List.forall_mem_append.mpr ⟨lwi_wsL_law_r25, List.forall_mem_append.mpr ⟨lwi_wsL_law_r26, List.forall_mem_append.mpr ⟨lwi_wsL_law_r27, List.forall_mem_append.mpr ⟨lwi_wsL_law_r28, List.forall_mem_append.mpr ⟨lwi_wsL_law_r29, List.forall_mem_append.mpr ⟨lwi_wsL_law_r30, List.forall_mem_append.mpr ⟨lwi_wsL_law_r31, List.forall_mem_append.mpr ⟨lwi_wsL_law_r32, List.forall_mem_append.mpr ⟨lwi_wsL_law_r33, lwi_wsL_law_r34⟩⟩⟩⟩⟩⟩⟩⟩⟩⟩⟩⟩⟩⟩⟩⟩⟩⟩⟩⟩⟩⟩⟩⟩⟩⟩⟩⟩⟩⟩⟩⟩⟩, lwi_wsX70⟩, lwi_wsX80⟩, lwi_wsX10⟩, lwi_wsX30⟩, lwi_wsX60⟩, lwi_wsX00⟩, lwi_wsX50⟩, lwi_wsX20⟩, (fun _ h => absurd h List.not_mem_nil)⟩
theorem wsL_law_good : ∀ w ∈ wsL_law, goodWord w = true := by
  show ∀ w ∈ (wsL_law_r1 ++ (wsL_law_r2 ++ (wsL_law_r3 ++ (wsL_law_r4 ++ (wsL_law_r5 ++ (wsL_law_r6 ++ (wsL_law_r7 ++ (wsL_law_r8 ++ (wsL_law_r9 ++ (wsL_law_r10 ++ (wsL_law_r11 ++ (wsL_law_r12 ++ (wsL_law_r13 ++ (wsL_law_r14 ++ (wsL_law_r15 ++ (wsL_law_r16 ++ (wsL_law_r17 ++ (wsL_law_r18 ++ (wsL_law_r19 ++ (wsL_law_r20 ++ (wsL_law_r21 ++ (wsL_law_r22 ++ (wsL_law_r23 ++ (wsL_law_r24 ++ (wsL_law_r25 ++ (wsL_law_r26 ++ (wsL_law_r27 ++ (wsL_law_r28 ++ (wsL_law_r29 ++ (wsL_law_r30 ++ (wsL_law_r31 ++ (wsL_law_r32 ++ (wsL_law_r33 ++ wsL_law_r34))))))))))))))))))))))))))))))))) ++ wsX70 ++ wsX80 ++ wsX10 ++ wsX30 ++ wsX60 ++ wsX00 ++ wsX50 ++ wsX20 ++ ([] : List Cond), goodWord w = true
  exact List.forall_mem_append.mpr ⟨List.forall_mem_append.mpr ⟨List.forall_mem_append.mpr ⟨List.forall_mem_append.mpr ⟨List.forall_mem_append.mpr ⟨List.forall_mem_append.mpr ⟨List.forall_mem_append.mpr ⟨List.forall_mem_append.mpr ⟨List.forall_mem_append.mpr ⟨List.forall_mem_append.mpr ⟨(List.all_eq_true.mp lwg_wsL_law_r1), List.forall_mem_append.mpr ⟨(List.all_eq_true.mp lwg_wsL_law_r2), List.forall_mem_append.mpr ⟨(List.all_eq_true.mp lwg_wsL_law_r3), List.forall_mem_append.mpr ⟨(List.all_eq_true.mp lwg_wsL_law_r4), List.forall_mem_append.mpr ⟨(List.all_eq_true.mp lwg_wsL_law_r5), List.forall_mem_append.mpr ⟨(List.all_eq_true.mp lwg_wsL_law_r6), List.forall_mem_append.mpr ⟨(List.all_eq_true.mp lwg_wsL_law_r7), List.forall_mem_append.mpr ⟨(List.all_eq_true.mp lwg_wsL_law_r8), List.forall_mem_append.mpr ⟨(List.all_eq_true.mp lwg_wsL_law_r9), List.forall_mem_append.mpr ⟨(List.all_eq_true.mp lwg_wsL_law_r10), List.forall_mem_append.mpr ⟨(List.all_eq_true.mp lwg_wsL_law_r11), List.forall_mem_append.mpr ⟨(List.all_eq_true.mp lwg_wsL_law_r12), List.forall_mem_append.mpr ⟨(List.all_eq_true.mp lwg_wsL_law_r13), List.forall_mem_append.mpr ⟨(List.all_eq_true.mp lwg_wsL_law_r14), List.forall_mem_append.mpr ⟨(List.all_eq_true.mp lwg_wsL_law_r15), List.forall_mem_append.mpr ⟨(List.all_eq_true.mp lwg_wsL_law_r16), List.forall_mem_append.mpr ⟨(List.all_eq_true.mp lwg_wsL_law_r17), List.forall_mem_append.mpr ⟨(List.all_eq_true.mp lwg_wsL_law_r18), List.forall_mem_append.mpr ⟨(List.all_eq_true.mp lwg_wsL_law_r19), List.forall_mem_append.mpr ⟨(List.all_eq_true.mp lwg_wsL_law_r20), List.forall_mem_append.mpr ⟨(List.all_eq_true.mp lwg_wsL_law_r21), List.forall_mem_append.mpr ⟨(List.all_eq_true.mp lwg_wsL_law_r22), List.forall_mem_append.mpr ⟨(List.all_eq_true.mp lwg_wsL_law_r23), List.forall_mem_append.mpr ⟨(List.all_eq_true.mp lwg_wsL_law_r24), List.forall_mem_append.mpr ⟨(List.all_eq_true.mp lwg_wsL_law_r25), List.forall_mem_append.mpr ⟨(List.all_eq_true.mp lwg_wsL_law_r26), List.forall_mem_append.mpr ⟨(List.all_eq_true.mp lwg_wsL_law_r27), List.forall_mem_append.mpr ⟨(List.all_eq_true.mp lwg_wsL_law_r28), List.forall_mem_append.mpr ⟨(List.all_eq_true.mp lwg_wsL_law_r29), List.forall_mem_append.mpr ⟨(List.all_eq_true.mp lwg_wsL_law_r30), List.forall_mem_append.mpr ⟨(List.all_eq_true.mp lwg_wsL_law_r31), List.forall_mem_append.mpr ⟨(List.all_eq_true.mp lwg_wsL_law_r32), List.forall_mem_append.mpr ⟨(List.all_eq_true.mp lwg_wsL_law_r33), (List.all_eq_true.mp lwg_wsL_law_r34)⟩⟩⟩⟩⟩⟩⟩⟩⟩⟩⟩⟩⟩⟩⟩⟩⟩⟩⟩⟩⟩⟩⟩⟩⟩⟩⟩⟩⟩⟩⟩⟩⟩, (List.all_eq_true.mp lwg_wsX70)⟩, (List.all_eq_true.mp lwg_wsX80)⟩, (List.all_eq_true.mp lwg_wsX10)⟩, (List.all_eq_true.mp lwg_wsX30)⟩, (List.all_eq_true.mp lwg_wsX60)⟩, (List.all_eq_true.mp lwg_wsX00)⟩, (List.all_eq_true.mp lwg_wsX50)⟩, (List.all_eq_true.mp lwg_wsX20)⟩, (fun _ h => absurd h List.not_mem_nil)⟩
theorem lwm_wsL_law_r1 : ∀ w ∈ wsL_law_r1, w ∈ wsL_law := fun _ h => (List.mem_append_left _ (List.mem_append_left _ (List.mem_append_left _ (List.mem_append_left _ (List.mem_append_left _ (List.mem_append_left _ (List.mem_append_left _ (List.mem_append_left _ (List.mem_append_left _ (List.mem_append_left _ h))))))))))
theorem lwm_wsL_law_r2 : ∀ w ∈ wsL_law_r2, w ∈ wsL_law := fun _ h => (List.mem_append_left _ (List.mem_append_left _ (List.mem_append_left _ (List.mem_append_left _ (List.mem_append_left _ (List.mem_append_left _ (List.mem_append_left _ (List.mem_append_left _ (List.mem_append_left _ (List.mem_append_right _ (List.mem_append_left _ h)))))))))))
theorem lwm_wsL_law_r3 : ∀ w ∈ wsL_law_r3, w ∈ wsL_law := fun _ h => (List.mem_append_left _ (List.mem_append_left _ (List.mem_append_left _ (List.mem_append_left _ (List.mem_append_left _ (List.mem_append_left _ (List.mem_append_left _ (List.mem_append_left _ (List.mem_append_left _ (List.mem_append_right _ (List.mem_append_right _ (List.mem_append_left _ h))))))))))))
theorem lwm_wsL_law_r4 : ∀ w ∈ wsL_law_r4, w ∈ wsL_law := fun _ h => (List.mem_append_left _ (List.mem_append_left _ (List.mem_append_left _ (List.mem_append_left _ (List.mem_append_left _ (List.mem_append_left _ (List.mem_append_left _ (List.mem_append_left _ (List.mem_append_left _ (List.mem_append_right _ (List.mem_append_right _ (List.mem_append_right _ (List.mem_append_left _ h)))))))))))))
theorem lwm_wsL_law_r5 : ∀ w ∈ wsL_law_r5, w ∈ wsL_law := fun _ h => (List.mem_append_left _ (List.mem_append_left _ (List.mem_append_left _ (List.mem_append_left _ (List.mem_append_left _ (List.mem_append_left _ (List.mem_append_left _ (List.mem_append_left _ (List.mem_append_left _ (List.mem_append_right _ (List.mem_append_right _ (List.mem_append_right _ (List.mem_append_right _ (List.mem_append_left _ h))))))))))))))
theorem lwm_wsL_law_r6 : ∀ w ∈ wsL_law_r6, w ∈ wsL_law := fun _ h => (List.mem_append_left _ (List.mem_append_left _ (List.mem_append_left _ (List.mem_append_left _ (List.mem_append_left _ (List.mem_append_left _ (List.mem_append_left _ (List.mem_append_left _ (List.mem_append_left _ (List.mem_append_right _ (List.mem_append_right _ (List.mem_append_right _ (List.mem_append_right _ (List.mem_append_right _ (List.mem_append_left _ h)))))))))))))))
theorem lwm_wsL_law_r7 : ∀ w ∈ wsL_law_r7, w ∈ wsL_law := fun _ h => (List.mem_append_left _ (List.mem_append_left _ (List.mem_append_left _ (List.mem_append_left _ (List.mem_append_left _ (List.mem_append_left _ (List.mem_append_left _ (List.mem_append_left _ (List.mem_append_left _ (List.mem_append_right _ (List.mem_append_right _ (List.mem_append_right _ (List.mem_append_right _ (List.mem_append_right _ (List.mem_append_right _ (List.mem_append_left _ h))))))))))))))))
theorem lwm_wsL_law_r8 : ∀ w ∈ wsL_law_r8, w ∈ wsL_law := fun _ h => (List.mem_append_left _ (List.mem_append_left _ (List.mem_append_left _ (List.mem_append_left _ (List.mem_append_left _ (List.mem_append_left _ (List.mem_append_left _ (List.mem_append_left _ (List.mem_append_left _ (List.mem_append_right _ (List.mem_append_right _ (List.mem_append_right _ (List.mem_append_right _ (List.mem_append_right _ (List.mem_append_right _ (List.mem_append_right _ (List.mem_append_left _ h)))))))))))))))))
theorem lwm_wsL_law_r9 : ∀ w ∈ wsL_law_r9, w ∈ wsL_law := fun _ h => (List.mem_append_left _ (List.mem_append_left _ (List.mem_append_left _ (List.mem_append_left _ (List.mem_append_left _ (List.mem_append_left _ (List.mem_append_left _ (List.mem_append_left _ (List.mem_append_left _ (List.mem_append_right _ (List.mem_append_right _ (List.mem_append_right _ (List.mem_append_right _ (List.mem_append_right _ (List.mem_append_right _ (List.mem_append_right _ (List.mem_append_right _ (List.mem_append_left _ h))))))))))))))))))
theorem lwm_wsL_law_r10 : ∀ w ∈ wsL_law_r10, w ∈ wsL_law := fun _ h => (List.mem_append_left _ (List.mem_append_left _ (List.mem_append_left _ (List.mem_append_left _ (List.mem_append_left _ (List.mem_append_left _ (List.mem_append_left _ (List.mem_append_left _ (List.mem_append_left _ (List.mem_append_right _ (List.mem_append_right _ (List.mem_append_right _ (List.mem_append_right _ (List.mem_append_right _ (List.mem_append_right _ (List.mem_append_right _ (List.mem_append_right _ (List.mem_append_right _ (List.mem_append_left _ h)))))))))))))))))))
theorem lwm_wsL_law_r11 : ∀ w ∈ wsL_law_r11, w ∈ wsL_law := fun _ h => (List.mem_append_left _ (List.mem_append_left _ (List.mem_append_left _ (List.mem_append_left _ (List.mem_append_left _ (List.mem_append_left _ (List.mem_append_left _ (List.mem_append_left _ (List.mem_append_left _ (List.mem_append_right _ (List.mem_append_right _ (List.mem_append_right _ (List.mem_append_right _ (List.mem_append_right _ (List.mem_append_right _ (List.mem_append_right _ (List.mem_append_right _ (List.mem_append_right _ (List.mem_append_right _ (List.mem_append_left _ h))))))))))))))))))))
theorem lwm_wsL_law_r12 : ∀ w ∈ wsL_law_r12, w ∈ wsL_law := fun _ h => (List.mem_append_left _ (List.mem_append_left _ (List.mem_append_left _ (List.mem_append_left _ (List.mem_append_left _ (List.mem_append_left _ (List.mem_append_left _ (List.mem_append_left _ (List.mem_append_left _ (List.mem_append_right _ (List.mem_append_right _ (List.mem_append_right _ (List.mem_append_right _ (List.mem_append_right _ (List.mem_append_right _ (List.mem_append_right _ (List.mem_append_right _ (List.mem_append_right _ (List.mem_append_right _ (List.mem_append_right _ (List.mem_append_left _ h)))))))))))))))))))))
theorem lwm_wsL_law_r13 : ∀ w ∈ wsL_law_r13, w ∈ wsL_law := fun _ h => (List.mem_append_left _ (List.mem_append_left _ (List.mem_append_left _ (List.mem_append_left _ (List.mem_append_left _ (List.mem_append_left _ (List.mem_append_left _ (List.mem_append_left _ (List.mem_append_left _ (List.mem_append_right _ (List.mem_append_right _ (List.mem_append_right _ (List.mem_append_right _ (List.mem_append_right _ (List.mem_append_right _ (List.mem_append_right _ (List.mem_append_right _ (List.mem_append_right _ (List.mem_append_right _ (List.mem_append_right _ (List.mem_append_right _ (List.mem_append_left _ h))))))))))))))))))))))
theorem lwm_wsL_law_r14 : ∀ w ∈ wsL_law_r14, w ∈ wsL_law := fun _ h => (List.mem_append_left _ (List.mem_append_left _ (List.mem_append_left _ (List.mem_append_left _ (List.mem_append_left _ (List.mem_append_left _ (List.mem_append_left _ (List.mem_append_left _ (List.mem_append_left _ (List.mem_append_right _ (List.mem_append_right _ (List.mem_append_right _ (List.mem_append_right _ (List.mem_append_right _ (List.mem_append_right _ (List.mem_append_right _ (List.mem_append_right _ (List.mem_append_right _ (List.mem_append_right _ (List.mem_append_right _ (List.mem_append_right _ (List.mem_append_right _ (List.mem_append_left _ h)))))))))))))))))))))))
theorem lwm_wsL_law_r15 : ∀ w ∈ wsL_law_r15, w ∈ wsL_law := fun _ h => (List.mem_append_left _ (List.mem_append_left _ (List.mem_append_left _ (List.mem_append_left _ (List.mem_append_left _ (List.mem_append_left _ (List.mem_append_left _ (List.mem_append_left _ (List.mem_append_left _ (List.mem_append_right _ (List.mem_append_right _ (List.mem_append_right _ (List.mem_append_right _ (List.mem_append_right _ (List.mem_append_right _ (List.mem_append_right _ (List.mem_append_right _ (List.mem_append_right _ (List.mem_append_right _ (List.mem_append_right _ (List.mem_append_right _ (List.mem_append_right _ (List.mem_append_right _ (List.mem_append_left _ h))))))))))))))))))))))))
theorem lwm_wsL_law_r16 : ∀ w ∈ wsL_law_r16, w ∈ wsL_law := fun _ h => (List.mem_append_left _ (List.mem_append_left _ (List.mem_append_left _ (List.mem_append_left _ (List.mem_append_left _ (List.mem_append_left _ (List.mem_append_left _ (List.mem_append_left _ (List.mem_append_left _ (List.mem_append_right _ (List.mem_append_right _ (List.mem_append_right _ (List.mem_append_right _ (List.mem_append_right _ (List.mem_append_right _ (List.mem_append_right _ (List.mem_append_right _ (List.mem_append_right _ (List.mem_append_right _ (List.mem_append_right _ (List.mem_append_right _ (List.mem_append_right _ (List.mem_append_right _ (List.mem_append_right _ (List.mem_append_left _ h)))))))))))))))))))))))))
theorem lwm_wsL_law_r17 : ∀ w ∈ wsL_law_r17, w ∈ wsL_law := fun _ h => (List.mem_append_left _ (List.mem_append_left _ (List.mem_append_left _ (List.mem_append_left _ (List.mem_append_left _ (List.mem_append_left _ (List.mem_append_left _ (List.mem_append_left _ (List.mem_append_left _ (List.mem_append_right _ (List.mem_append_right _ (List.mem_append_right _ (List.mem_append_right _ (List.mem_append_right _ (List.mem_append_right _ (List.mem_append_right _ (List.mem_append_right _ (List.mem_append_right _ (List.mem_append_right _ (List.mem_append_right _ (List.mem_append_right _ (List.mem_append_right _ (List.mem_append_right _ (List.mem_append_right _ (List.mem_append_right _ (List.mem_append_left _ h))))))))))))))))))))))))))
theorem lwm_wsL_law_r18 : ∀ w ∈ wsL_law_r18, w ∈ wsL_law := fun _ h => (List.mem_append_left _ (List.mem_append_left _ (List.mem_append_left _ (List.mem_append_left _ (List.mem_append_left _ (List.mem_append_left _ (List.mem_append_left _ (List.mem_append_left _ (List.mem_append_left _ (List.mem_append_right _ (List.mem_append_right _ (List.mem_append_right _ (List.mem_append_right _ (List.mem_append_right _ (List.mem_append_right _ (List.mem_append_right _ (List.mem_append_right _ (List.mem_append_right _ (List.mem_append_right _ (List.mem_append_right _ (List.mem_append_right _ (List.mem_append_right _ (List.mem_append_right _ (List.mem_append_right _ (List.mem_append_right _ (List.mem_append_right _ (List.mem_append_left _ h)))))))))))))))))))))))))))
theorem lwm_wsL_law_r19 : ∀ w ∈ wsL_law_r19, w ∈ wsL_law := fun _ h => (List.mem_append_left _ (List.mem_append_left _ (List.mem_append_left _ (List.mem_append_left _ (List.mem_append_left _ (List.mem_append_left _ (List.mem_append_left _ (List.mem_append_left _ (List.mem_append_left _ (List.mem_append_right _ (List.mem_append_right _ (List.mem_append_right _ (List.mem_append_right _ (List.mem_append_right _ (List.mem_append_right _ (List.mem_append_right _ (List.mem_append_right _ (List.mem_append_right _ (List.mem_append_right _ (List.mem_append_right _ (List.mem_append_right _ (List.mem_append_right _ (List.mem_append_right _ (List.mem_append_right _ (List.mem_append_right _ (List.mem_append_right _ (List.mem_append_right _ (List.mem_append_left _ h))))))))))))))))))))))))))))
theorem lwm_wsL_law_r20 : ∀ w ∈ wsL_law_r20, w ∈ wsL_law := fun _ h => (List.mem_append_left _ (List.mem_append_left _ (List.mem_append_left _ (List.mem_append_left _ (List.mem_append_left _ (List.mem_append_left _ (List.mem_append_left _ (List.mem_append_left _ (List.mem_append_left _ (List.mem_append_right _ (List.mem_append_right _ (List.mem_append_right _ (List.mem_append_right _ (List.mem_append_right _ (List.mem_append_right _ (List.mem_append_right _ (List.mem_append_right _ (List.mem_append_right _ (List.mem_append_right _ (List.mem_append_right _ (List.mem_append_right _ (List.mem_append_right _ (List.mem_append_right _ (List.mem_append_right _ (List.mem_append_right _ (List.mem_append_right _ (List.mem_append_right _ (List.mem_append_right _ (List.mem_append_left _ h)))))))))))))))))))))))))))))
theorem lwm_wsL_law_r21 : ∀ w ∈ wsL_law_r21, w ∈ wsL_law := fun _ h => (List.mem_append_left _ (List.mem_append_left _ (List.mem_append_left _ (List.mem_append_left _ (List.mem_append_left _ (List.mem_append_left _ (List.mem_append_left _ (List.mem_append_left _ (List.mem_append_left _ (List.mem_append_right _ (List.mem_append_right _ (List.mem_append_right _ (List.mem_append_right _ (List.mem_append_right _ (List.mem_append_right _ (List.mem_append_right _ (List.mem_append_right _ (List.mem_append_right _ (List.mem_append_right _ (List.mem_append_right _ (List.mem_append_right _ (List.mem_append_right _ (List.mem_append_right _ (List.mem_append_right _ (List.mem_append_right _ (List.mem_append_right _ (List.mem_append_right _ (List.mem_append_right _ (List.mem_append_right _ (List.mem_append_left _ h))))))))))))))))))))))))))))))
theorem lwm_wsL_law_r22 : ∀ w ∈ wsL_law_r22, w ∈ wsL_law := fun _ h => (List.mem_append_left _ (List.mem_append_left _ (List.mem_append_left _ (List.mem_append_left _ (List.mem_append_left _ (List.mem_append_left _ (List.mem_append_left _ (List.mem_append_left _ (List.mem_append_left _ (List.mem_append_right _ (List.mem_append_right _ (List.mem_append_right _ (List.mem_append_right _ (List.mem_append_right _ (List.mem_append_right _ (List.mem_append_right _ (List.mem_append_right _ (List.mem_append_right _ (List.mem_append_right _ (List.mem_append_right _ (List.mem_append_right _ (List.mem_append_right _ (List.mem_append_right _ (List.mem_append_right _ (List.mem_append_right _ (List.mem_append_right _ (List.mem_append_right _ (List.mem_append_right _ (List.mem_append_right _ (List.mem_append_right _ (List.mem_append_left _ h)))))))))))))))))))))))))))))))
theorem lwm_wsL_law_r23 : ∀ w ∈ wsL_law_r23, w ∈ wsL_law := fun _ h => (List.mem_append_left _ (List.mem_append_left _ (List.mem_append_left _ (List.mem_append_left _ (List.mem_append_left _ (List.mem_append_left _ (List.mem_append_left _ (List.mem_append_left _ (List.mem_append_left _ (List.mem_append_right _ (List.mem_append_right _ (List.mem_append_right _ (List.mem_append_right _ (List.mem_append_right _ (List.mem_append_right _ (List.mem_append_right _ (List.mem_append_right _ (List.mem_append_right _ (List.mem_append_right _ (List.mem_append_right _ (List.mem_append_right _ (List.mem_append_right _ (List.mem_append_right _ (List.mem_append_right _ (List.mem_append_right _ (List.mem_append_right _ (List.mem_append_right _ (List.mem_append_right _ (List.mem_append_right _ (List.mem_append_right _ (List.mem_append_right _ (List.mem_append_left _ h))))))))))))))))))))))))))))))))
theorem lwm_wsL_law_r24 : ∀ w ∈ wsL_law_r24, w ∈ wsL_law := fun _ h => (List.mem_append_left _ (List.mem_append_left _ (List.mem_append_left _ (List.mem_append_left _ (List.mem_append_left _ (List.mem_append_left _ (List.mem_append_left _ (List.mem_append_left _ (List.mem_append_left _ (List.mem_append_right _ (List.mem_append_right _ (List.mem_append_right _ (List.mem_append_right _ (List.mem_append_right _ (List.mem_append_right _ (List.mem_append_right _ (List.mem_append_right _ (List.mem_append_right _ (List.mem_append_right _ (List.mem_append_right _ (List.mem_append_right _ (List.mem_append_right _ (List.mem_append_right _ (List.mem_append_right _ (List.mem_append_right _ (List.mem_append_right _ (List.mem_append_right _ (List.mem_append_right _ (List.mem_append_right _ (List.mem_append_right _ (List.mem_append_right _ (List.mem_append_right _ (List.mem_append_left _ h)))))))))))))))))))))))))))))))))
theorem lwm_wsL_law_r25 : ∀ w ∈ wsL_law_r25, w ∈ wsL_law := fun _ h => (List.mem_append_left _ (List.mem_append_left _ (List.mem_append_left _ (List.mem_append_left _ (List.mem_append_left _ (List.mem_append_left _ (List.mem_append_left _ (List.mem_append_left _ (List.mem_append_left _ (List.mem_append_right _ (List.mem_append_right _ (List.mem_append_right _ (List.mem_append_right _ (List.mem_append_right _ (List.mem_append_right _ (List.mem_append_right _ (List.mem_append_right _ (List.mem_append_right _ (List.mem_append_right _ (List.mem_append_right _ (List.mem_append_right _ (List.mem_append_right _ (List.mem_append_right _ (List.mem_append_right _ (List.mem_append_right _ (List.mem_append_right _ (List.mem_append_right _ (List.mem_append_right _ (List.mem_append_right _ (List.mem_append_right _ (List.mem_append_right _ (List.mem_append_right _ (List.mem_append_right _ (List.mem_append_left _ h))))))))))))))))))))))))))))))))))
theorem lwm_wsL_law_r26 : ∀ w ∈ wsL_law_r26, w ∈ wsL_law := fun _ h => (List.mem_append_left _ (List.mem_append_left _ (List.mem_append_left _ (List.mem_append_left _ (List.mem_append_left _ (List.mem_append_left _ (List.mem_append_left _ (List.mem_append_left _ (List.mem_append_left _ (List.mem_append_right _ (List.mem_append_right _ (List.mem_append_right _ (List.mem_append_right _ (List.mem_append_right _ (List.mem_append_right _ (List.mem_append_right _ (List.mem_append_right _ (List.mem_append_right _ (List.mem_append_right _ (List.mem_append_right _ (List.mem_append_right _ (List.mem_append_right _ (List.mem_append_right _ (List.mem_append_right _ (List.mem_append_right _ (List.mem_append_right _ (List.mem_append_right _ (List.mem_append_right _ (List.mem_append_right _ (List.mem_append_right _ (List.mem_append_right _ (List.mem_append_right _ (List.mem_append_right _ (List.mem_append_right _ (List.mem_append_left _ h)))))))))))))))))))))))))))))))))))
theorem lwm_wsL_law_r27 : ∀ w ∈ wsL_law_r27, w ∈ wsL_law := fun _ h => (List.mem_append_left _ (List.mem_append_left _ (List.mem_append_left _ (List.mem_append_left _ (List.mem_append_left _ (List.mem_append_left _ (List.mem_append_left _ (List.mem_append_left _ (List.mem_append_left _ (List.mem_append_right _ (List.mem_append_right _ (List.mem_append_right _ (List.mem_append_right _ (List.mem_append_right _ (List.mem_append_right _ (List.mem_append_right _ (List.mem_append_right _ (List.mem_append_right _ (List.mem_append_right _ (List.mem_append_right _ (List.mem_append_right _ (List.mem_append_right _ (List.mem_append_right _ (List.mem_append_right _ (List.mem_append_right _ (List.mem_append_right _ (List.mem_append_right _ (List.mem_append_right _ (List.mem_append_right _ (List.mem_append_right _ (List.mem_append_right _ (List.mem_append_right _ (List.mem_append_right _ (List.mem_append_right _ (List.mem_append_right _ (List.mem_append_left _ h))))))))))))))))))))))))))))))))))))
theorem lwm_wsL_law_r28 : ∀ w ∈ wsL_law_r28, w ∈ wsL_law := fun _ h => (List.mem_append_left _ (List.mem_append_left _ (List.mem_append_left _ (List.mem_append_left _ (List.mem_append_left _ (List.mem_append_left _ (List.mem_append_left _ (List.mem_append_left _ (List.mem_append_left _ (List.mem_append_right _ (List.mem_append_right _ (List.mem_append_right _ (List.mem_append_right _ (List.mem_append_right _ (List.mem_append_right _ (List.mem_append_right _ (List.mem_append_right _ (List.mem_append_right _ (List.mem_append_right _ (List.mem_append_right _ (List.mem_append_right _ (List.mem_append_right _ (List.mem_append_right _ (List.mem_append_right _ (List.mem_append_right _ (List.mem_append_right _ (List.mem_append_right _ (List.mem_append_right _ (List.mem_append_right _ (List.mem_append_right _ (List.mem_append_right _ (List.mem_append_right _ (List.mem_append_right _ (List.mem_append_right _ (List.mem_append_right _ (List.mem_append_right _ (List.mem_append_left _ h)))))))))))))))))))))))))))))))))))))
theorem lwm_wsL_law_r29 : ∀ w ∈ wsL_law_r29, w ∈ wsL_law := fun _ h => (List.mem_append_left _ (List.mem_append_left _ (List.mem_append_left _ (List.mem_append_left _ (List.mem_append_left _ (List.mem_append_left _ (List.mem_append_left _ (List.mem_append_left _ (List.mem_append_left _ (List.mem_append_right _ (List.mem_append_right _ (List.mem_append_right _ (List.mem_append_right _ (List.mem_append_right _ (List.mem_append_right _ (List.mem_append_right _ (List.mem_append_right _ (List.mem_append_right _ (List.mem_append_right _ (List.mem_append_right _ (List.mem_append_right _ (List.mem_append_right _ (List.mem_append_right _ (List.mem_append_right _ (List.mem_append_right _ (List.mem_append_right _ (List.mem_append_right _ (List.mem_append_right _ (List.mem_append_right _ (List.mem_append_right _ (List.mem_append_right _ (List.mem_append_right _ (List.mem_append_right _ (List.mem_append_right _ (List.mem_append_right _ (List.mem_append_right _ (List.mem_append_right _ (List.mem_append_left _ h))))))))))))))))))))))))))))))))))))))
theorem lwm_wsL_law_r30 : ∀ w ∈ wsL_law_r30, w ∈ wsL_law := fun _ h => (List.mem_append_left _ (List.mem_append_left _ (List.mem_append_left _ (List.mem_append_left _ (List.mem_append_left _ (List.mem_append_left _ (List.mem_append_left _ (List.mem_append_left _ (List.mem_append_left _ (List.mem_append_right _ (List.mem_append_right _ (List.mem_append_right _ (List.mem_append_right _ (List.mem_append_right _ (List.mem_append_right _ (List.mem_append_right _ (List.mem_append_right _ (List.mem_append_right _ (List.mem_append_right _ (List.mem_append_right _ (List.mem_append_right _ (List.mem_append_right _ (List.mem_append_right _ (List.mem_append_right _ (List.mem_append_right _ (List.mem_append_right _ (List.mem_append_right _ (List.mem_append_right _ (List.mem_append_right _ (List.mem_append_right _ (List.mem_append_right _ (List.mem_append_right _ (List.mem_append_right _ (List.mem_append_right _ (List.mem_append_right _ (List.mem_append_right _ (List.mem_append_right _ (List.mem_append_right _ (List.mem_append_left _ h)))))))))))))))))))))))))))))))))))))))
theorem lwm_wsL_law_r31 : ∀ w ∈ wsL_law_r31, w ∈ wsL_law := fun _ h => (List.mem_append_left _ (List.mem_append_left _ (List.mem_append_left _ (List.mem_append_left _ (List.mem_append_left _ (List.mem_append_left _ (List.mem_append_left _ (List.mem_append_left _ (List.mem_append_left _ (List.mem_append_right _ (List.mem_append_right _ (List.mem_append_right _ (List.mem_append_right _ (List.mem_append_right _ (List.mem_append_right _ (List.mem_append_right _ (List.mem_append_right _ (List.mem_append_right _ (List.mem_append_right _ (List.mem_append_right _ (List.mem_append_right _ (List.mem_append_right _ (List.mem_append_right _ (List.mem_append_right _ (List.mem_append_right _ (List.mem_append_right _ (List.mem_append_right _ (List.mem_append_right _ (List.mem_append_right _ (List.mem_append_right _ (List.mem_append_right _ (List.mem_append_right _ (List.mem_append_right _ (List.mem_append_right _ (List.mem_append_right _ (List.mem_append_right _ (List.mem_append_right _ (List.mem_append_right _ (List.mem_append_right _ (List.mem_append_left _ h))))))))))))))))))))))))))))))))))))))))
theorem lwm_wsL_law_r32 : ∀ w ∈ wsL_law_r32, w ∈ wsL_law := fun _ h => (List.mem_append_left _ (List.mem_append_left _ (List.mem_append_left _ (List.mem_append_left _ (List.mem_append_left _ (List.mem_append_left _ (List.mem_append_left _ (List.mem_append_left _ (List.mem_append_left _ (List.mem_append_right _ (List.mem_append_right _ (List.mem_append_right _ (List.mem_append_right _ (List.mem_append_right _ (List.mem_append_right _ (List.mem_append_right _ (List.mem_append_right _ (List.mem_append_right _ (List.mem_append_right _ (List.mem_append_right _ (List.mem_append_right _ (List.mem_append_right _ (List.mem_append_right _ (List.mem_append_right _ (List.mem_append_right _ (List.mem_append_right _ (List.mem_append_right _ (List.mem_append_right _ (List.mem_append_right _ (List.mem_append_right _ (List.mem_append_right _ (List.mem_append_right _ (List.mem_append_right _ (List.mem_append_right _ (List.mem_append_right _ (List.mem_append_right _ (List.mem_append_right _ (List.mem_append_right _ (List.mem_append_right _ (List.mem_append_right _ (List.mem_append_left _ h)))))))))))))))))))))))))))))))))))))))))
theorem lwm_wsL_law_r33 : ∀ w ∈ wsL_law_r33, w ∈ wsL_law := fun _ h => (List.mem_append_left _ (List.mem_append_left _ (List.mem_append_left _ (List.mem_append_left _ (List.mem_append_left _ (List.mem_append_left _ (List.mem_append_left _ (List.mem_append_left _ (List.mem_append_left _ (List.mem_append_right _ (List.mem_append_right _ (List.mem_append_right _ (List.mem_append_right _ (List.mem_append_right _ (List.mem_append_right _ (List.mem_append_right _ (List.mem_append_right _ (List.mem_append_right _ (List.mem_append_right _ (List.mem_append_right _ (List.mem_append_right _ (List.mem_append_right _ (List.mem_append_right _ (List.mem_append_right _ (List.mem_append_right _ (List.mem_append_right _ (List.mem_append_right _ (List.mem_append_right _ (List.mem_append_right _ (List.mem_append_right _ (List.mem_append_right _ (List.mem_append_right _ (List.mem_append_right _ (List.mem_append_right _ (List.mem_append_right _ (List.mem_append_right _ (List.mem_append_right _ (List.mem_append_right _ (List.mem_append_right _ (List.mem_append_right _ (List.mem_append_right _ (List.mem_append_left _ h))))))))))))))))))))))))))))))))))))))))))
theorem lwm_wsL_law_r34 : ∀ w ∈ wsL_law_r34, w ∈ wsL_law := fun _ h => (List.mem_append_left _ (List.mem_append_left _ (List.mem_append_left _ (List.mem_append_left _ (List.mem_append_left _ (List.mem_append_left _ (List.mem_append_left _ (List.mem_append_left _ (List.mem_append_left _ (List.mem_append_right _ (List.mem_append_right _ (List.mem_append_right _ (List.mem_append_right _ (List.mem_append_right _ (List.mem_append_right _ (List.mem_append_right _ (List.mem_append_right _ (List.mem_append_right _ (List.mem_append_right _ (List.mem_append_right _ (List.mem_append_right _ (List.mem_append_right _ (List.mem_append_right _ (List.mem_append_right _ (List.mem_append_right _ (List.mem_append_right _ (List.mem_append_right _ (List.mem_append_right _ (List.mem_append_right _ (List.mem_append_right _ (List.mem_append_right _ (List.mem_append_right _ (List.mem_append_right _ (List.mem_append_right _ (List.mem_append_right _ (List.mem_append_right _ (List.mem_append_right _ (List.mem_append_right _ (List.mem_append_right _ (List.mem_append_right _ (List.mem_append_right _ (List.mem_append_right _ h))))))))))))))))))))))))))))))))))))))))))
theorem lwm_wsX70 : ∀ w ∈ wsX70, w ∈ wsL_law := fun _ h => (List.mem_append_left _ (List.mem_append_left _ (List.mem_append_left _ (List.mem_append_left _ (List.mem_append_left _ (List.mem_append_left _ (List.mem_append_left _ (List.mem_append_left _ (List.mem_append_right _ h)))))))))
theorem lwm_wsX80 : ∀ w ∈ wsX80, w ∈ wsL_law := fun _ h => (List.mem_append_left _ (List.mem_append_left _ (List.mem_append_left _ (List.mem_append_left _ (List.mem_append_left _ (List.mem_append_left _ (List.mem_append_left _ (List.mem_append_right _ h))))))))
theorem lwm_wsX10 : ∀ w ∈ wsX10, w ∈ wsL_law := fun _ h => (List.mem_append_left _ (List.mem_append_left _ (List.mem_append_left _ (List.mem_append_left _ (List.mem_append_left _ (List.mem_append_left _ (List.mem_append_right _ h)))))))
theorem lwm_wsX30 : ∀ w ∈ wsX30, w ∈ wsL_law := fun _ h => (List.mem_append_left _ (List.mem_append_left _ (List.mem_append_left _ (List.mem_append_left _ (List.mem_append_left _ (List.mem_append_right _ h))))))
theorem lwm_wsX60 : ∀ w ∈ wsX60, w ∈ wsL_law := fun _ h => (List.mem_append_left _ (List.mem_append_left _ (List.mem_append_left _ (List.mem_append_left _ (List.mem_append_right _ h)))))
theorem lwm_wsX00 : ∀ w ∈ wsX00, w ∈ wsL_law := fun _ h => (List.mem_append_left _ (List.mem_append_left _ (List.mem_append_left _ (List.mem_append_right _ h))))
theorem lwm_wsX50 : ∀ w ∈ wsX50, w ∈ wsL_law := fun _ h => (List.mem_append_left _ (List.mem_append_left _ (List.mem_append_right _ h)))
theorem lwm_wsX20 : ∀ w ∈ wsX20, w ∈ wsL_law := fun _ h => (List.mem_append_left _ (List.mem_append_right _ h))
theorem wl_0 : Cond.classLink RL 7 RX7 ∈ wsL_law := lwm_wsL_law_r1 _ (List.mem_of_getElem? (i := 0) rfl)
theorem wl_1 : Cond.instantiable RX7 7 ∈ wsL_law := lwm_wsL_law_r1 _ (List.mem_of_getElem? (i := 1) rfl)
theorem wl_2 : Cond.initialized RX7 ∈ wsL_law := lwm_wsL_law_r1 _ (List.mem_of_getElem? (i := 2) rfl)
theorem wl_3 : Cond.classLink RL 10 RX8 ∈ wsL_law := lwm_wsL_law_r1 _ (List.mem_of_getElem? (i := 3) rfl)
theorem wl_4 : Cond.instantiable RX8 25 ∈ wsL_law := lwm_wsL_law_r1 _ (List.mem_of_getElem? (i := 4) rfl)
theorem wl_5 : Cond.initialized RX8 ∈ wsL_law := lwm_wsL_law_r1 _ (List.mem_of_getElem? (i := 5) rfl)
theorem wl_6 : Cond.methodLink RL 9 yX7_init ∈ wsL_law := lwm_wsL_law_r1 _ (List.mem_of_getElem? (i := 6) rfl)
theorem wl_7 : Cond.instanceMethod yX7_init ∈ wsL_law := lwm_wsL_law_r1 _ (List.mem_of_getElem? (i := 7) rfl)
theorem wl_8 : Cond.code yX7_init cX7_init 1 none ∈ wsL_law := lwm_wsL_law_r1 _ (List.mem_of_getElem? (i := 8) rfl)
theorem wl_9 : Cond.methodLink RX7 3 objectInit ∈ wsL_law := lwm_wsL_law_r1 _ (List.mem_of_getElem? (i := 9) rfl)
theorem wl_10 : Cond.instanceMethod objectInit ∈ wsL_law := lwm_wsL_law_r1 _ (List.mem_of_getElem? (i := 10) rfl)
theorem wl_11 : Cond.code objectInit ⟨#[0xb1]⟩ 1 none ∈ wsL_law := lwm_wsL_law_r1 _ (List.mem_of_getElem? (i := 11) rfl)
theorem wl_12 : Cond.classLink RX7 9 RX1 ∈ wsL_law := lwm_wsL_law_r1 _ (List.mem_of_getElem? (i := 12) rfl)
theorem wl_13 : Cond.instantiable RX1 6 ∈ wsL_law := lwm_wsL_law_r1 _ (List.mem_of_getElem? (i := 13) rfl)
theorem wl_14 : Cond.initialized RX1 ∈ wsL_law := lwm_wsL_law_r1 _ (List.mem_of_getElem? (i := 14) rfl)
theorem wl_15 : Cond.fieldLink RX7 12 "HardBench" "floats" "LHardBench$Floats;" ∈ wsL_law := lwm_wsL_law_r1 _ (List.mem_of_getElem? (i := 15) rfl)
theorem wl_16 : Cond.classLink RX7 16 RX3 ∈ wsL_law := lwm_wsL_law_r1 _ (List.mem_of_getElem? (i := 16) rfl)
theorem wl_17 : Cond.instantiable RX3 5 ∈ wsL_law := lwm_wsL_law_r1 _ (List.mem_of_getElem? (i := 17) rfl)
theorem wl_18 : Cond.initialized RX3 ∈ wsL_law := lwm_wsL_law_r1 _ (List.mem_of_getElem? (i := 18) rfl)
theorem wl_19 : Cond.fieldLink RX7 21 "HardBench" "place" "LHardBench$Place;" ∈ wsL_law := lwm_wsL_law_r1 _ (List.mem_of_getElem? (i := 19) rfl)
theorem wl_20 : Cond.classLink RX7 25 RX6 ∈ wsL_law := lwm_wsL_law_r1 _ (List.mem_of_getElem? (i := 20) rfl)
theorem wl_21 : Cond.instantiable RX6 9 ∈ wsL_law := lwm_wsL_law_r1 _ (List.mem_of_getElem? (i := 21) rfl)
theorem wl_22 : Cond.initialized RX6 ∈ wsL_law := lwm_wsL_law_r1 _ (List.mem_of_getElem? (i := 22) rfl)
theorem wl_23 : Cond.fieldLink RX7 28 "HardBench" "value" "LHardBench$Value;" ∈ wsL_law := lwm_wsL_law_r1 _ (List.mem_of_getElem? (i := 23) rfl)
theorem wl_24 : Cond.classLink RX7 32 RX0 ∈ wsL_law := lwm_wsL_law_r2 _ (List.mem_of_getElem? (i := 0) rfl)
theorem wl_25 : Cond.instantiable RX0 7 ∈ wsL_law := lwm_wsL_law_r2 _ (List.mem_of_getElem? (i := 1) rfl)
theorem wl_26 : Cond.initialized RX0 ∈ wsL_law := lwm_wsL_law_r2 _ (List.mem_of_getElem? (i := 2) rfl)
theorem wl_27 : Cond.fieldLink RX7 37 "HardBench" "census" "LHardBench$Census;" ∈ wsL_law := lwm_wsL_law_r2 _ (List.mem_of_getElem? (i := 3) rfl)
theorem wl_28 : Cond.classLink RX7 41 RX5 ∈ wsL_law := lwm_wsL_law_r2 _ (List.mem_of_getElem? (i := 4) rfl)
theorem wl_29 : Cond.instantiable RX5 4 ∈ wsL_law := lwm_wsL_law_r2 _ (List.mem_of_getElem? (i := 5) rfl)
theorem wl_30 : Cond.initialized RX5 ∈ wsL_law := lwm_wsL_law_r2 _ (List.mem_of_getElem? (i := 6) rfl)
theorem wl_31 : Cond.fieldLink RX7 44 "HardBench" "stretches" "LHardBench$Stretches;" ∈ wsL_law := lwm_wsL_law_r2 _ (List.mem_of_getElem? (i := 7) rfl)
theorem wl_32 : Cond.classLink RX7 48 RX2 ∈ wsL_law := lwm_wsL_law_r2 _ (List.mem_of_getElem? (i := 8) rfl)
theorem wl_33 : Cond.instantiable RX2 10 ∈ wsL_law := lwm_wsL_law_r2 _ (List.mem_of_getElem? (i := 9) rfl)
theorem wl_34 : Cond.initialized RX2 ∈ wsL_law := lwm_wsL_law_r2 _ (List.mem_of_getElem? (i := 10) rfl)
theorem wl_35 : Cond.fieldLink RX7 51 "HardBench" "lines" "LHardBench$Lines;" ∈ wsL_law := lwm_wsL_law_r2 _ (List.mem_of_getElem? (i := 11) rfl)
theorem wl_36 : Cond.arrayClass .int ∈ wsL_law := lwm_wsL_law_r2 _ (List.mem_of_getElem? (i := 12) rfl)
theorem wl_37 : Cond.fieldLink RX7 55 "HardBench" "refusals" "[I" ∈ wsL_law := lwm_wsL_law_r2 _ (List.mem_of_getElem? (i := 13) rfl)
theorem wl_38 : Cond.methodLink RX7 11 yX1_init ∈ wsL_law := lwm_wsL_law_r2 _ (List.mem_of_getElem? (i := 14) rfl)
theorem wl_39 : Cond.instanceMethod yX1_init ∈ wsL_law := lwm_wsL_law_r2 _ (List.mem_of_getElem? (i := 15) rfl)
theorem wl_40 : Cond.code yX1_init cX1_init 1 none ∈ wsL_law := lwm_wsL_law_r2 _ (List.mem_of_getElem? (i := 16) rfl)
theorem wl_41 : Cond.methodLink RX1 1 objectInit ∈ wsL_law := lwm_wsL_law_r2 _ (List.mem_of_getElem? (i := 17) rfl)
theorem wl_42 : Cond.methodLink RX1 7 yX1_become ∈ wsL_law := lwm_wsL_law_r2 _ (List.mem_of_getElem? (i := 18) rfl)
theorem wl_43 : Cond.instanceMethod yX1_become ∈ wsL_law := lwm_wsL_law_r2 _ (List.mem_of_getElem? (i := 19) rfl)
theorem wl_44 : Cond.selects RX1 yX1_become yX1_become ∈ wsL_law := lwm_wsL_law_r2 _ (List.mem_of_getElem? (i := 20) rfl)
theorem wl_45 : Cond.code yX1_become cX1_become 3 none ∈ wsL_law := lwm_wsL_law_r2 _ (List.mem_of_getElem? (i := 21) rfl)
theorem wl_46 : Cond.fieldLink RX1 13 "HardBench$Floats" "e" "I" ∈ wsL_law := lwm_wsL_law_r2 _ (List.mem_of_getElem? (i := 22) rfl)
theorem wl_47 : Cond.fieldLink RX1 17 "HardBench$Floats" "f" "I" ∈ wsL_law := lwm_wsL_law_r2 _ (List.mem_of_getElem? (i := 23) rfl)
theorem wl_48 : Cond.fieldLink RX1 20 "HardBench$Floats" "bias" "I" ∈ wsL_law := lwm_wsL_law_r3 _ (List.mem_of_getElem? (i := 0) rfl)
theorem wl_49 : Cond.fieldLink RX1 23 "HardBench$Floats" "codes" "I" ∈ wsL_law := lwm_wsL_law_r3 _ (List.mem_of_getElem? (i := 1) rfl)
theorem wl_50 : Cond.fieldLink RX1 26 "HardBench$Floats" "signBit" "I" ∈ wsL_law := lwm_wsL_law_r3 _ (List.mem_of_getElem? (i := 2) rfl)
theorem wl_51 : Cond.fieldLink RX1 29 "HardBench$Floats" "endless" "I" ∈ wsL_law := lwm_wsL_law_r3 _ (List.mem_of_getElem? (i := 3) rfl)
theorem wl_52 : Cond.methodLink RX7 18 yX3_init ∈ wsL_law := lwm_wsL_law_r3 _ (List.mem_of_getElem? (i := 4) rfl)
theorem wl_53 : Cond.instanceMethod yX3_init ∈ wsL_law := lwm_wsL_law_r3 _ (List.mem_of_getElem? (i := 5) rfl)
theorem wl_54 : Cond.code yX3_init cX3_init 2 none ∈ wsL_law := lwm_wsL_law_r3 _ (List.mem_of_getElem? (i := 6) rfl)
theorem wl_55 : Cond.methodLink RX3 3 objectInit ∈ wsL_law := lwm_wsL_law_r3 _ (List.mem_of_getElem? (i := 7) rfl)
theorem wl_56 : Cond.fieldLink RX3 9 "HardBench$Place" "floats" "LHardBench$Floats;" ∈ wsL_law := lwm_wsL_law_r3 _ (List.mem_of_getElem? (i := 8) rfl)
theorem wl_57 : Cond.methodLink RX7 27 yX6_init ∈ wsL_law := lwm_wsL_law_r3 _ (List.mem_of_getElem? (i := 9) rfl)
theorem wl_58 : Cond.instanceMethod yX6_init ∈ wsL_law := lwm_wsL_law_r3 _ (List.mem_of_getElem? (i := 10) rfl)
theorem wl_59 : Cond.code yX6_init cX6_init 2 none ∈ wsL_law := lwm_wsL_law_r3 _ (List.mem_of_getElem? (i := 11) rfl)
theorem wl_60 : Cond.methodLink RX6 3 objectInit ∈ wsL_law := lwm_wsL_law_r3 _ (List.mem_of_getElem? (i := 12) rfl)
theorem wl_61 : Cond.fieldLink RX6 9 "HardBench$Value" "floats" "LHardBench$Floats;" ∈ wsL_law := lwm_wsL_law_r3 _ (List.mem_of_getElem? (i := 13) rfl)
theorem wl_62 : Cond.classLink RX6 15 RX3 ∈ wsL_law := lwm_wsL_law_r3 _ (List.mem_of_getElem? (i := 14) rfl)
theorem wl_63 : Cond.fieldLink RX6 20 "HardBench$Value" "place" "LHardBench$Place;" ∈ wsL_law := lwm_wsL_law_r3 _ (List.mem_of_getElem? (i := 15) rfl)
theorem wl_64 : Cond.methodLink RX6 17 yX3_init ∈ wsL_law := lwm_wsL_law_r3 _ (List.mem_of_getElem? (i := 16) rfl)
theorem wl_65 : Cond.methodLink RX7 34 yX0_init ∈ wsL_law := lwm_wsL_law_r3 _ (List.mem_of_getElem? (i := 17) rfl)
theorem wl_66 : Cond.instanceMethod yX0_init ∈ wsL_law := lwm_wsL_law_r3 _ (List.mem_of_getElem? (i := 18) rfl)
theorem wl_67 : Cond.code yX0_init cX0_init 3 none ∈ wsL_law := lwm_wsL_law_r3 _ (List.mem_of_getElem? (i := 19) rfl)
theorem wl_68 : Cond.methodLink RX0 3 objectInit ∈ wsL_law := lwm_wsL_law_r3 _ (List.mem_of_getElem? (i := 20) rfl)
theorem wl_69 : Cond.fieldLink RX0 9 "HardBench$Census" "floats" "LHardBench$Floats;" ∈ wsL_law := lwm_wsL_law_r3 _ (List.mem_of_getElem? (i := 21) rfl)
theorem wl_70 : Cond.fieldLink RX0 15 "HardBench$Census" "value" "LHardBench$Value;" ∈ wsL_law := lwm_wsL_law_r3 _ (List.mem_of_getElem? (i := 22) rfl)
theorem wl_71 : Cond.fieldLink RX0 19 "HardBench$Census" "taken" "[I" ∈ wsL_law := lwm_wsL_law_r3 _ (List.mem_of_getElem? (i := 23) rfl)
theorem wl_72 : Cond.fieldLink RX0 23 "HardBench$Census" "sorts" "[I" ∈ wsL_law := lwm_wsL_law_r4 _ (List.mem_of_getElem? (i := 0) rfl)
theorem wl_73 : Cond.fieldLink RX0 26 "HardBench$Census" "hardnesses" "[I" ∈ wsL_law := lwm_wsL_law_r4 _ (List.mem_of_getElem? (i := 1) rfl)
theorem wl_74 : Cond.fieldLink RX0 29 "HardBench$Census" "blockGreatest" "[I" ∈ wsL_law := lwm_wsL_law_r4 _ (List.mem_of_getElem? (i := 2) rfl)
theorem wl_75 : Cond.fieldLink RX0 32 "HardBench$Census" "blockHave" "[I" ∈ wsL_law := lwm_wsL_law_r4 _ (List.mem_of_getElem? (i := 3) rfl)
theorem wl_76 : Cond.methodLink RX7 43 yX5_init ∈ wsL_law := lwm_wsL_law_r4 _ (List.mem_of_getElem? (i := 4) rfl)
theorem wl_77 : Cond.instanceMethod yX5_init ∈ wsL_law := lwm_wsL_law_r4 _ (List.mem_of_getElem? (i := 5) rfl)
theorem wl_78 : Cond.code yX5_init cX5_init 3 none ∈ wsL_law := lwm_wsL_law_r4 _ (List.mem_of_getElem? (i := 6) rfl)
theorem wl_79 : Cond.methodLink RX5 3 objectInit ∈ wsL_law := lwm_wsL_law_r4 _ (List.mem_of_getElem? (i := 7) rfl)
theorem wl_80 : Cond.fieldLink RX5 9 "HardBench$Stretches" "floats" "LHardBench$Floats;" ∈ wsL_law := lwm_wsL_law_r4 _ (List.mem_of_getElem? (i := 8) rfl)
theorem wl_81 : Cond.fieldLink RX5 15 "HardBench$Stretches" "value" "LHardBench$Value;" ∈ wsL_law := lwm_wsL_law_r4 _ (List.mem_of_getElem? (i := 9) rfl)
theorem wl_82 : Cond.fieldLink RX5 19 "HardBench$Stretches" "totals" "[I" ∈ wsL_law := lwm_wsL_law_r4 _ (List.mem_of_getElem? (i := 10) rfl)
theorem wl_83 : Cond.fieldLink RX5 23 "HardBench$Stretches" "begun" "[I" ∈ wsL_law := lwm_wsL_law_r4 _ (List.mem_of_getElem? (i := 11) rfl)
theorem wl_84 : Cond.methodLink RX7 50 yX2_init ∈ wsL_law := lwm_wsL_law_r4 _ (List.mem_of_getElem? (i := 12) rfl)
theorem wl_85 : Cond.instanceMethod yX2_init ∈ wsL_law := lwm_wsL_law_r4 _ (List.mem_of_getElem? (i := 13) rfl)
theorem wl_86 : Cond.code yX2_init cX2_init 3 none ∈ wsL_law := lwm_wsL_law_r4 _ (List.mem_of_getElem? (i := 14) rfl)
theorem wl_87 : Cond.methodLink RX2 3 objectInit ∈ wsL_law := lwm_wsL_law_r4 _ (List.mem_of_getElem? (i := 15) rfl)
theorem wl_88 : Cond.fieldLink RX2 9 "HardBench$Lines" "floats" "LHardBench$Floats;" ∈ wsL_law := lwm_wsL_law_r4 _ (List.mem_of_getElem? (i := 16) rfl)
theorem wl_89 : Cond.fieldLink RX2 15 "HardBench$Lines" "value" "LHardBench$Value;" ∈ wsL_law := lwm_wsL_law_r4 _ (List.mem_of_getElem? (i := 17) rfl)
theorem wl_90 : Cond.fieldLink RX2 19 "HardBench$Lines" "due" "[I" ∈ wsL_law := lwm_wsL_law_r4 _ (List.mem_of_getElem? (i := 18) rfl)
theorem wl_91 : Cond.fieldLink RX2 23 "HardBench$Lines" "firsts" "[I" ∈ wsL_law := lwm_wsL_law_r4 _ (List.mem_of_getElem? (i := 19) rfl)
theorem wl_92 : Cond.fieldLink RX2 26 "HardBench$Lines" "starts" "[I" ∈ wsL_law := lwm_wsL_law_r4 _ (List.mem_of_getElem? (i := 20) rfl)
theorem wl_93 : Cond.fieldLink RX2 29 "HardBench$Lines" "slopes" "[I" ∈ wsL_law := lwm_wsL_law_r4 _ (List.mem_of_getElem? (i := 21) rfl)
theorem wl_94 : Cond.methodLink RL 12 yX8_init ∈ wsL_law := lwm_wsL_law_r4 _ (List.mem_of_getElem? (i := 22) rfl)
theorem wl_95 : Cond.instanceMethod yX8_init ∈ wsL_law := lwm_wsL_law_r4 _ (List.mem_of_getElem? (i := 23) rfl)
theorem wl_96 : Cond.code yX8_init cX8_init 1 none ∈ wsL_law := lwm_wsL_law_r5 _ (List.mem_of_getElem? (i := 0) rfl)
theorem wl_97 : Cond.methodLink RX8 1 objectInit ∈ wsL_law := lwm_wsL_law_r5 _ (List.mem_of_getElem? (i := 1) rfl)
theorem wl_98 : Cond.fieldLink RX8 7 "HardBenchModel" "refusals" "[I" ∈ wsL_law := lwm_wsL_law_r5 _ (List.mem_of_getElem? (i := 2) rfl)
theorem wl_99 : Cond.arrayClass .boolean ∈ wsL_law := lwm_wsL_law_r5 _ (List.mem_of_getElem? (i := 3) rfl)
theorem wl_100 : Cond.fieldLink RX8 13 "HardBenchModel" "isKnown" "[Z" ∈ wsL_law := lwm_wsL_law_r5 _ (List.mem_of_getElem? (i := 4) rfl)
theorem wl_101 : Cond.constant RX8 17 (81920) ∈ wsL_law := lwm_wsL_law_r5 _ (List.mem_of_getElem? (i := 5) rfl)
theorem wl_102 : Cond.fieldLink RX8 18 "HardBenchModel" "hards" "[I" ∈ wsL_law := lwm_wsL_law_r5 _ (List.mem_of_getElem? (i := 6) rfl)
theorem wl_103 : Cond.fieldLink RX8 21 "HardBenchModel" "sorts" "[I" ∈ wsL_law := lwm_wsL_law_r5 _ (List.mem_of_getElem? (i := 7) rfl)
theorem wl_104 : Cond.fieldLink RX8 24 "HardBenchModel" "spanFrom" "[I" ∈ wsL_law := lwm_wsL_law_r5 _ (List.mem_of_getElem? (i := 8) rfl)
theorem wl_105 : Cond.fieldLink RX8 27 "HardBenchModel" "spanTo" "[I" ∈ wsL_law := lwm_wsL_law_r5 _ (List.mem_of_getElem? (i := 9) rfl)
theorem wl_106 : Cond.fieldLink RX8 30 "HardBenchModel" "partFrom" "[I" ∈ wsL_law := lwm_wsL_law_r5 _ (List.mem_of_getElem? (i := 10) rfl)
theorem wl_107 : Cond.fieldLink RX8 33 "HardBenchModel" "partTo" "[I" ∈ wsL_law := lwm_wsL_law_r5 _ (List.mem_of_getElem? (i := 11) rfl)
theorem wl_108 : Cond.arrayClass .long ∈ wsL_law := lwm_wsL_law_r5 _ (List.mem_of_getElem? (i := 12) rfl)
theorem wl_109 : Cond.fieldLink RX8 36 "HardBenchModel" "partA" "[J" ∈ wsL_law := lwm_wsL_law_r5 _ (List.mem_of_getElem? (i := 13) rfl)
theorem wl_110 : Cond.fieldLink RX8 40 "HardBenchModel" "partB" "[J" ∈ wsL_law := lwm_wsL_law_r5 _ (List.mem_of_getElem? (i := 14) rfl)
theorem wl_111 : Cond.fieldLink RX8 43 "HardBenchModel" "due" "[J" ∈ wsL_law := lwm_wsL_law_r5 _ (List.mem_of_getElem? (i := 15) rfl)
theorem wl_112 : Cond.methodLink RX8 46 yX8_makes ∈ wsL_law := lwm_wsL_law_r5 _ (List.mem_of_getElem? (i := 16) rfl)
theorem wl_113 : Cond.instanceMethod yX8_makes ∈ wsL_law := lwm_wsL_law_r5 _ (List.mem_of_getElem? (i := 17) rfl)
theorem wl_114 : Cond.selects RX8 yX8_makes yX8_makes ∈ wsL_law := lwm_wsL_law_r5 _ (List.mem_of_getElem? (i := 18) rfl)
theorem wl_115 : Cond.code yX8_makes cX8_makes 4 none ∈ wsL_law := lwm_wsL_law_r5 _ (List.mem_of_getElem? (i := 19) rfl)
theorem wl_116 : Cond.fieldLink RX8 55 "HardBenchModel" "e" "I" ∈ wsL_law := lwm_wsL_law_r5 _ (List.mem_of_getElem? (i := 20) rfl)
theorem wl_117 : Cond.fieldLink RX8 59 "HardBenchModel" "f" "I" ∈ wsL_law := lwm_wsL_law_r5 _ (List.mem_of_getElem? (i := 21) rfl)
theorem wl_118 : Cond.fieldLink RX8 62 "HardBenchModel" "codes" "I" ∈ wsL_law := lwm_wsL_law_r5 _ (List.mem_of_getElem? (i := 22) rfl)
theorem wl_119 : Cond.fieldLink RX8 65 "HardBenchModel" "minus" "I" ∈ wsL_law := lwm_wsL_law_r5 _ (List.mem_of_getElem? (i := 23) rfl)
theorem wl_120 : Cond.fieldLink RX8 68 "HardBenchModel" "most" "I" ∈ wsL_law := lwm_wsL_law_r6 _ (List.mem_of_getElem? (i := 0) rfl)
theorem wl_121 : Cond.fieldLink RX8 71 "HardBenchModel" "low" "I" ∈ wsL_law := lwm_wsL_law_r6 _ (List.mem_of_getElem? (i := 1) rfl)
theorem wl_122 : Cond.fieldLink RX8 74 "HardBenchModel" "parts" "I" ∈ wsL_law := lwm_wsL_law_r6 _ (List.mem_of_getElem? (i := 2) rfl)
theorem wl_123 : Cond.fieldLink RX8 77 "HardBenchModel" "spanFunction" "I" ∈ wsL_law := lwm_wsL_law_r6 _ (List.mem_of_getElem? (i := 3) rfl)
theorem wl_124 : Cond.methodLink RL 13 yX7_make ∈ wsL_law := lwm_wsL_law_r6 _ (List.mem_of_getElem? (i := 4) rfl)
theorem wl_125 : Cond.instanceMethod yX7_make ∈ wsL_law := lwm_wsL_law_r6 _ (List.mem_of_getElem? (i := 5) rfl)
theorem wl_126 : Cond.selects RX7 yX7_make yX7_make ∈ wsL_law := lwm_wsL_law_r6 _ (List.mem_of_getElem? (i := 6) rfl)
theorem wl_127 : Cond.code yX7_make cX7_make 3 (some .int) ∈ wsL_law := lwm_wsL_law_r6 _ (List.mem_of_getElem? (i := 7) rfl)
theorem wl_128 : Cond.methodLink RX7 59 yX7_refuse ∈ wsL_law := lwm_wsL_law_r6 _ (List.mem_of_getElem? (i := 8) rfl)
theorem wl_129 : Cond.instanceMethod yX7_refuse ∈ wsL_law := lwm_wsL_law_r6 _ (List.mem_of_getElem? (i := 9) rfl)
theorem wl_130 : Cond.selects RX7 yX7_refuse yX7_refuse ∈ wsL_law := lwm_wsL_law_r6 _ (List.mem_of_getElem? (i := 10) rfl)
theorem wl_131 : Cond.code yX7_refuse cX7_refuse 2 (some .int) ∈ wsL_law := lwm_wsL_law_r6 _ (List.mem_of_getElem? (i := 11) rfl)
theorem wl_132 : Cond.methodLink RX7 228 yX4_addOne ∈ wsL_law := lwm_wsL_law_r6 _ (List.mem_of_getElem? (i := 12) rfl)
theorem wl_133 : Cond.static yX4_addOne ∈ wsL_law := lwm_wsL_law_r6 _ (List.mem_of_getElem? (i := 13) rfl)
theorem wl_134 : Cond.initialized RX4 ∈ wsL_law := lwm_wsL_law_r6 _ (List.mem_of_getElem? (i := 14) rfl)
theorem wl_135 : Cond.code yX4_addOne cX4_addOne 2 none ∈ wsL_law := lwm_wsL_law_r6 _ (List.mem_of_getElem? (i := 15) rfl)
theorem wl_136 : Cond.methodLink RX4 7 yX4_at ∈ wsL_law := lwm_wsL_law_r6 _ (List.mem_of_getElem? (i := 16) rfl)
theorem wl_137 : Cond.static yX4_at ∈ wsL_law := lwm_wsL_law_r6 _ (List.mem_of_getElem? (i := 17) rfl)
theorem wl_138 : Cond.code yX4_at cX4_at 2 (some .int) ∈ wsL_law := lwm_wsL_law_r6 _ (List.mem_of_getElem? (i := 18) rfl)
theorem wl_139 : Cond.methodLink RX4 13 yX4_put ∈ wsL_law := lwm_wsL_law_r6 _ (List.mem_of_getElem? (i := 19) rfl)
theorem wl_140 : Cond.static yX4_put ∈ wsL_law := lwm_wsL_law_r6 _ (List.mem_of_getElem? (i := 20) rfl)
theorem wl_141 : Cond.code yX4_put cX4_put 3 none ∈ wsL_law := lwm_wsL_law_r6 _ (List.mem_of_getElem? (i := 21) rfl)
theorem wl_142 : Cond.methodLink RX7 70 yX1_become ∈ wsL_law := lwm_wsL_law_r6 _ (List.mem_of_getElem? (i := 22) rfl)
theorem wl_143 : Cond.methodLink RX7 74 yX0_forget ∈ wsL_law := lwm_wsL_law_r6 _ (List.mem_of_getElem? (i := 23) rfl)
theorem wl_144 : Cond.instanceMethod yX0_forget ∈ wsL_law := lwm_wsL_law_r7 _ (List.mem_of_getElem? (i := 0) rfl)
theorem wl_145 : Cond.selects RX0 yX0_forget yX0_forget ∈ wsL_law := lwm_wsL_law_r7 _ (List.mem_of_getElem? (i := 1) rfl)
theorem wl_146 : Cond.code yX0_forget cX0_forget 1 none ∈ wsL_law := lwm_wsL_law_r7 _ (List.mem_of_getElem? (i := 2) rfl)
theorem wl_147 : Cond.methodLink RX0 35 yJ7_fill_53178 ∈ wsL_law := lwm_wsL_law_r7 _ (List.mem_of_getElem? (i := 3) rfl)
theorem wl_148 : Cond.static yJ7_fill_53178 ∈ wsL_law := lwm_wsL_law_r7 _ (List.mem_of_getElem? (i := 4) rfl)
theorem wl_149 : Cond.initialized RJ7 ∈ wsL_law := lwm_wsL_law_r7 _ (List.mem_of_getElem? (i := 5) rfl)
theorem wl_150 : Cond.code yJ7_fill_53178 cJ7_fill_53178 4 none ∈ wsL_law := lwm_wsL_law_r7 _ (List.mem_of_getElem? (i := 6) rfl)
theorem wl_151 : Cond.methodLink RX7 77 yX5_forget ∈ wsL_law := lwm_wsL_law_r7 _ (List.mem_of_getElem? (i := 7) rfl)
theorem wl_152 : Cond.instanceMethod yX5_forget ∈ wsL_law := lwm_wsL_law_r7 _ (List.mem_of_getElem? (i := 8) rfl)
theorem wl_153 : Cond.selects RX5 yX5_forget yX5_forget ∈ wsL_law := lwm_wsL_law_r7 _ (List.mem_of_getElem? (i := 9) rfl)
theorem wl_154 : Cond.code yX5_forget cX5_forget 1 none ∈ wsL_law := lwm_wsL_law_r7 _ (List.mem_of_getElem? (i := 10) rfl)
theorem wl_155 : Cond.methodLink RX5 26 yJ7_fill_53178 ∈ wsL_law := lwm_wsL_law_r7 _ (List.mem_of_getElem? (i := 11) rfl)
theorem wl_156 : Cond.methodLink RX7 78 yX2_forget ∈ wsL_law := lwm_wsL_law_r7 _ (List.mem_of_getElem? (i := 12) rfl)
theorem wl_157 : Cond.instanceMethod yX2_forget ∈ wsL_law := lwm_wsL_law_r7 _ (List.mem_of_getElem? (i := 13) rfl)
theorem wl_158 : Cond.selects RX2 yX2_forget yX2_forget ∈ wsL_law := lwm_wsL_law_r7 _ (List.mem_of_getElem? (i := 14) rfl)
theorem wl_159 : Cond.code yX2_forget cX2_forget 1 none ∈ wsL_law := lwm_wsL_law_r7 _ (List.mem_of_getElem? (i := 15) rfl)
theorem wl_160 : Cond.fieldLink RX2 32 "HardBench$Lines" "parts" "I" ∈ wsL_law := lwm_wsL_law_r7 _ (List.mem_of_getElem? (i := 16) rfl)
theorem wl_161 : Cond.methodLink RL 17 yX8_make ∈ wsL_law := lwm_wsL_law_r7 _ (List.mem_of_getElem? (i := 17) rfl)
theorem wl_162 : Cond.instanceMethod yX8_make ∈ wsL_law := lwm_wsL_law_r7 _ (List.mem_of_getElem? (i := 18) rfl)
theorem wl_163 : Cond.selects RX8 yX8_make yX8_make ∈ wsL_law := lwm_wsL_law_r7 _ (List.mem_of_getElem? (i := 19) rfl)
theorem wl_164 : Cond.code yX8_make cX8_make 3 (some .int) ∈ wsL_law := lwm_wsL_law_r7 _ (List.mem_of_getElem? (i := 20) rfl)
theorem wl_165 : Cond.methodLink RX8 51 yX8_refuse ∈ wsL_law := lwm_wsL_law_r7 _ (List.mem_of_getElem? (i := 21) rfl)
theorem wl_166 : Cond.instanceMethod yX8_refuse ∈ wsL_law := lwm_wsL_law_r7 _ (List.mem_of_getElem? (i := 22) rfl)
theorem wl_167 : Cond.selects RX8 yX8_refuse yX8_refuse ∈ wsL_law := lwm_wsL_law_r7 _ (List.mem_of_getElem? (i := 23) rfl)
theorem wl_168 : Cond.code yX8_refuse cX8_refuse 2 (some .int) ∈ wsL_law := lwm_wsL_law_r8 _ (List.mem_of_getElem? (i := 0) rfl)
theorem wl_169 : Cond.methodLink RL 18 yX7_about ∈ wsL_law := lwm_wsL_law_r8 _ (List.mem_of_getElem? (i := 1) rfl)
theorem wl_170 : Cond.instanceMethod yX7_about ∈ wsL_law := lwm_wsL_law_r8 _ (List.mem_of_getElem? (i := 2) rfl)
theorem wl_171 : Cond.selects RX7 yX7_about yX7_about ∈ wsL_law := lwm_wsL_law_r8 _ (List.mem_of_getElem? (i := 3) rfl)
theorem wl_172 : Cond.code yX7_about cX7_about 3 (some .int) ∈ wsL_law := lwm_wsL_law_r8 _ (List.mem_of_getElem? (i := 4) rfl)
theorem wl_173 : Cond.methodLink RX7 82 yX1_isCode ∈ wsL_law := lwm_wsL_law_r8 _ (List.mem_of_getElem? (i := 5) rfl)
theorem wl_174 : Cond.instanceMethod yX1_isCode ∈ wsL_law := lwm_wsL_law_r8 _ (List.mem_of_getElem? (i := 6) rfl)
theorem wl_175 : Cond.selects RX1 yX1_isCode yX1_isCode ∈ wsL_law := lwm_wsL_law_r8 _ (List.mem_of_getElem? (i := 7) rfl)
theorem wl_176 : Cond.code yX1_isCode cX1_isCode 2 (some .boolean) ∈ wsL_law := lwm_wsL_law_r8 _ (List.mem_of_getElem? (i := 8) rfl)
theorem wl_177 : Cond.methodLink RX7 86 yX7_refuseAsTold ∈ wsL_law := lwm_wsL_law_r8 _ (List.mem_of_getElem? (i := 9) rfl)
theorem wl_178 : Cond.instanceMethod yX7_refuseAsTold ∈ wsL_law := lwm_wsL_law_r8 _ (List.mem_of_getElem? (i := 10) rfl)
theorem wl_179 : Cond.selects RX7 yX7_refuseAsTold yX7_refuseAsTold ∈ wsL_law := lwm_wsL_law_r8 _ (List.mem_of_getElem? (i := 11) rfl)
theorem wl_180 : Cond.code yX7_refuseAsTold cX7_refuseAsTold 2 (some .int) ∈ wsL_law := lwm_wsL_law_r8 _ (List.mem_of_getElem? (i := 12) rfl)
theorem wl_181 : Cond.constant RX7 214 (1000000000) ∈ wsL_law := lwm_wsL_law_r8 _ (List.mem_of_getElem? (i := 13) rfl)
theorem wl_182 : Cond.methodLink RX7 89 yX1_isPlain ∈ wsL_law := lwm_wsL_law_r8 _ (List.mem_of_getElem? (i := 14) rfl)
theorem wl_183 : Cond.instanceMethod yX1_isPlain ∈ wsL_law := lwm_wsL_law_r8 _ (List.mem_of_getElem? (i := 15) rfl)
theorem wl_184 : Cond.selects RX1 yX1_isPlain yX1_isPlain ∈ wsL_law := lwm_wsL_law_r8 _ (List.mem_of_getElem? (i := 16) rfl)
theorem wl_185 : Cond.code yX1_isPlain cX1_isPlain 2 (some .boolean) ∈ wsL_law := lwm_wsL_law_r8 _ (List.mem_of_getElem? (i := 17) rfl)
theorem wl_186 : Cond.methodLink RX1 36 yX1_amount ∈ wsL_law := lwm_wsL_law_r8 _ (List.mem_of_getElem? (i := 18) rfl)
theorem wl_187 : Cond.instanceMethod yX1_amount ∈ wsL_law := lwm_wsL_law_r8 _ (List.mem_of_getElem? (i := 19) rfl)
theorem wl_188 : Cond.selects RX1 yX1_amount yX1_amount ∈ wsL_law := lwm_wsL_law_r8 _ (List.mem_of_getElem? (i := 20) rfl)
theorem wl_189 : Cond.code yX1_amount cX1_amount 2 (some .int) ∈ wsL_law := lwm_wsL_law_r8 _ (List.mem_of_getElem? (i := 21) rfl)
theorem wl_190 : Cond.methodLink RX7 92 yX1_kindOf ∈ wsL_law := lwm_wsL_law_r8 _ (List.mem_of_getElem? (i := 22) rfl)
theorem wl_191 : Cond.instanceMethod yX1_kindOf ∈ wsL_law := lwm_wsL_law_r8 _ (List.mem_of_getElem? (i := 23) rfl)
theorem wl_192 : Cond.selects RX1 yX1_kindOf yX1_kindOf ∈ wsL_law := lwm_wsL_law_r9 _ (List.mem_of_getElem? (i := 0) rfl)
theorem wl_193 : Cond.code yX1_kindOf cX1_kindOf 2 (some .int) ∈ wsL_law := lwm_wsL_law_r9 _ (List.mem_of_getElem? (i := 1) rfl)
theorem wl_194 : Cond.methodLink RX1 40 yX1_isPlain ∈ wsL_law := lwm_wsL_law_r9 _ (List.mem_of_getElem? (i := 2) rfl)
theorem wl_195 : Cond.methodLink RX1 44 yX1_isZero ∈ wsL_law := lwm_wsL_law_r9 _ (List.mem_of_getElem? (i := 3) rfl)
theorem wl_196 : Cond.instanceMethod yX1_isZero ∈ wsL_law := lwm_wsL_law_r9 _ (List.mem_of_getElem? (i := 4) rfl)
theorem wl_197 : Cond.selects RX1 yX1_isZero yX1_isZero ∈ wsL_law := lwm_wsL_law_r9 _ (List.mem_of_getElem? (i := 5) rfl)
theorem wl_198 : Cond.code yX1_isZero cX1_isZero 2 (some .boolean) ∈ wsL_law := lwm_wsL_law_r9 _ (List.mem_of_getElem? (i := 6) rfl)
theorem wl_199 : Cond.methodLink RX1 47 yX1_isNone ∈ wsL_law := lwm_wsL_law_r9 _ (List.mem_of_getElem? (i := 7) rfl)
theorem wl_200 : Cond.instanceMethod yX1_isNone ∈ wsL_law := lwm_wsL_law_r9 _ (List.mem_of_getElem? (i := 8) rfl)
theorem wl_201 : Cond.selects RX1 yX1_isNone yX1_isNone ∈ wsL_law := lwm_wsL_law_r9 _ (List.mem_of_getElem? (i := 9) rfl)
theorem wl_202 : Cond.code yX1_isNone cX1_isNone 2 (some .boolean) ∈ wsL_law := lwm_wsL_law_r9 _ (List.mem_of_getElem? (i := 10) rfl)
theorem wl_203 : Cond.methodLink RX7 95 yX1_isBelow ∈ wsL_law := lwm_wsL_law_r9 _ (List.mem_of_getElem? (i := 11) rfl)
theorem wl_204 : Cond.instanceMethod yX1_isBelow ∈ wsL_law := lwm_wsL_law_r9 _ (List.mem_of_getElem? (i := 12) rfl)
theorem wl_205 : Cond.selects RX1 yX1_isBelow yX1_isBelow ∈ wsL_law := lwm_wsL_law_r9 _ (List.mem_of_getElem? (i := 13) rfl)
theorem wl_206 : Cond.code yX1_isBelow cX1_isBelow 2 (some .boolean) ∈ wsL_law := lwm_wsL_law_r9 _ (List.mem_of_getElem? (i := 14) rfl)
theorem wl_207 : Cond.methodLink RX7 98 yX1_powerBits ∈ wsL_law := lwm_wsL_law_r9 _ (List.mem_of_getElem? (i := 15) rfl)
theorem wl_208 : Cond.instanceMethod yX1_powerBits ∈ wsL_law := lwm_wsL_law_r9 _ (List.mem_of_getElem? (i := 16) rfl)
theorem wl_209 : Cond.selects RX1 yX1_powerBits yX1_powerBits ∈ wsL_law := lwm_wsL_law_r9 _ (List.mem_of_getElem? (i := 17) rfl)
theorem wl_210 : Cond.code yX1_powerBits cX1_powerBits 2 (some .int) ∈ wsL_law := lwm_wsL_law_r9 _ (List.mem_of_getElem? (i := 18) rfl)
theorem wl_211 : Cond.methodLink RX7 101 yX1_figureBits ∈ wsL_law := lwm_wsL_law_r9 _ (List.mem_of_getElem? (i := 19) rfl)
theorem wl_212 : Cond.instanceMethod yX1_figureBits ∈ wsL_law := lwm_wsL_law_r9 _ (List.mem_of_getElem? (i := 20) rfl)
theorem wl_213 : Cond.selects RX1 yX1_figureBits yX1_figureBits ∈ wsL_law := lwm_wsL_law_r9 _ (List.mem_of_getElem? (i := 21) rfl)
theorem wl_214 : Cond.code yX1_figureBits cX1_figureBits 2 (some .int) ∈ wsL_law := lwm_wsL_law_r9 _ (List.mem_of_getElem? (i := 22) rfl)
theorem wl_215 : Cond.methodLink RX1 32 yX1_zs ∈ wsL_law := lwm_wsL_law_r9 _ (List.mem_of_getElem? (i := 23) rfl)
theorem wl_216 : Cond.instanceMethod yX1_zs ∈ wsL_law := lwm_wsL_law_r10 _ (List.mem_of_getElem? (i := 0) rfl)
theorem wl_217 : Cond.selects RX1 yX1_zs yX1_zs ∈ wsL_law := lwm_wsL_law_r10 _ (List.mem_of_getElem? (i := 1) rfl)
theorem wl_218 : Cond.code yX1_zs cX1_zs 1 (some .int) ∈ wsL_law := lwm_wsL_law_r10 _ (List.mem_of_getElem? (i := 2) rfl)
theorem wl_219 : Cond.methodLink RX7 104 yX1_oddFactor ∈ wsL_law := lwm_wsL_law_r10 _ (List.mem_of_getElem? (i := 3) rfl)
theorem wl_220 : Cond.instanceMethod yX1_oddFactor ∈ wsL_law := lwm_wsL_law_r10 _ (List.mem_of_getElem? (i := 4) rfl)
theorem wl_221 : Cond.selects RX1 yX1_oddFactor yX1_oddFactor ∈ wsL_law := lwm_wsL_law_r10 _ (List.mem_of_getElem? (i := 5) rfl)
theorem wl_222 : Cond.code yX1_oddFactor cX1_oddFactor 3 (some .int) ∈ wsL_law := lwm_wsL_law_r10 _ (List.mem_of_getElem? (i := 6) rfl)
theorem wl_223 : Cond.methodLink RX1 62 yX1_factor ∈ wsL_law := lwm_wsL_law_r10 _ (List.mem_of_getElem? (i := 7) rfl)
theorem wl_224 : Cond.instanceMethod yX1_factor ∈ wsL_law := lwm_wsL_law_r10 _ (List.mem_of_getElem? (i := 8) rfl)
theorem wl_225 : Cond.selects RX1 yX1_factor yX1_factor ∈ wsL_law := lwm_wsL_law_r10 _ (List.mem_of_getElem? (i := 9) rfl)
theorem wl_226 : Cond.code yX1_factor cX1_factor 2 (some .int) ∈ wsL_law := lwm_wsL_law_r10 _ (List.mem_of_getElem? (i := 10) rfl)
theorem wl_227 : Cond.methodLink RX1 50 yX1_powerBits ∈ wsL_law := lwm_wsL_law_r10 _ (List.mem_of_getElem? (i := 11) rfl)
theorem wl_228 : Cond.methodLink RX1 53 yX1_figureBits ∈ wsL_law := lwm_wsL_law_r10 _ (List.mem_of_getElem? (i := 12) rfl)
theorem wl_229 : Cond.methodLink RX1 65 yJ6_numberOfTrailingZeros_0f7a4 ∈ wsL_law := lwm_wsL_law_r10 _ (List.mem_of_getElem? (i := 13) rfl)
theorem wl_230 : Cond.static yJ6_numberOfTrailingZeros_0f7a4 ∈ wsL_law := lwm_wsL_law_r10 _ (List.mem_of_getElem? (i := 14) rfl)
theorem wl_231 : Cond.initialized RJ6 ∈ wsL_law := lwm_wsL_law_r10 _ (List.mem_of_getElem? (i := 15) rfl)
theorem wl_232 : Cond.code yJ6_numberOfTrailingZeros_0f7a4 cJ6_numberOfTrailingZeros_0f7a4 2 (some .int) ∈ wsL_law := lwm_wsL_law_r10 _ (List.mem_of_getElem? (i := 16) rfl)
theorem wl_233 : Cond.constant RJ6 264 (65536) ∈ wsL_law := lwm_wsL_law_r10 _ (List.mem_of_getElem? (i := 17) rfl)
theorem wl_234 : Cond.methodLink RX7 107 yX1_powerOfOddFactor ∈ wsL_law := lwm_wsL_law_r10 _ (List.mem_of_getElem? (i := 18) rfl)
theorem wl_235 : Cond.instanceMethod yX1_powerOfOddFactor ∈ wsL_law := lwm_wsL_law_r10 _ (List.mem_of_getElem? (i := 19) rfl)
theorem wl_236 : Cond.selects RX1 yX1_powerOfOddFactor yX1_powerOfOddFactor ∈ wsL_law := lwm_wsL_law_r10 _ (List.mem_of_getElem? (i := 20) rfl)
theorem wl_237 : Cond.code yX1_powerOfOddFactor cX1_powerOfOddFactor 3 (some .int) ∈ wsL_law := lwm_wsL_law_r10 _ (List.mem_of_getElem? (i := 21) rfl)
theorem wl_238 : Cond.methodLink RX1 70 yX1_power ∈ wsL_law := lwm_wsL_law_r10 _ (List.mem_of_getElem? (i := 22) rfl)
theorem wl_239 : Cond.instanceMethod yX1_power ∈ wsL_law := lwm_wsL_law_r10 _ (List.mem_of_getElem? (i := 23) rfl)
theorem wl_240 : Cond.selects RX1 yX1_power yX1_power ∈ wsL_law := lwm_wsL_law_r11 _ (List.mem_of_getElem? (i := 0) rfl)
theorem wl_241 : Cond.code yX1_power cX1_power 2 (some .int) ∈ wsL_law := lwm_wsL_law_r11 _ (List.mem_of_getElem? (i := 1) rfl)
theorem wl_242 : Cond.methodLink RX1 56 Lib.Math.max.name ∈ wsL_law := lwm_wsL_law_r11 _ (List.mem_of_getElem? (i := 2) rfl)
theorem wl_243 : Cond.static Lib.Math.max.name ∈ wsL_law := lwm_wsL_law_r11 _ (List.mem_of_getElem? (i := 3) rfl)
theorem wl_244 : Cond.initialized "java/lang/Math" ∈ wsL_law := lwm_wsL_law_r11 _ (List.mem_of_getElem? (i := 4) rfl)
theorem wl_245 : Cond.code Lib.Math.max.name Lib.Math.max.code 2 (some .int) ∈ wsL_law := lwm_wsL_law_r11 _ (List.mem_of_getElem? (i := 5) rfl)
theorem wl_246 : Cond.methodLink RL 21 yX8_about ∈ wsL_law := lwm_wsL_law_r11 _ (List.mem_of_getElem? (i := 6) rfl)
theorem wl_247 : Cond.instanceMethod yX8_about ∈ wsL_law := lwm_wsL_law_r11 _ (List.mem_of_getElem? (i := 7) rfl)
theorem wl_248 : Cond.selects RX8 yX8_about yX8_about ∈ wsL_law := lwm_wsL_law_r11 _ (List.mem_of_getElem? (i := 8) rfl)
theorem wl_249 : Cond.code yX8_about cX8_about 6 (some .int) ∈ wsL_law := lwm_wsL_law_r11 _ (List.mem_of_getElem? (i := 9) rfl)
theorem wl_250 : Cond.methodLink RX8 87 yX8_isCode ∈ wsL_law := lwm_wsL_law_r11 _ (List.mem_of_getElem? (i := 10) rfl)
theorem wl_251 : Cond.instanceMethod yX8_isCode ∈ wsL_law := lwm_wsL_law_r11 _ (List.mem_of_getElem? (i := 11) rfl)
theorem wl_252 : Cond.selects RX8 yX8_isCode yX8_isCode ∈ wsL_law := lwm_wsL_law_r11 _ (List.mem_of_getElem? (i := 12) rfl)
theorem wl_253 : Cond.code yX8_isCode cX8_isCode 2 (some .boolean) ∈ wsL_law := lwm_wsL_law_r11 _ (List.mem_of_getElem? (i := 13) rfl)
theorem wl_254 : Cond.methodLink RX8 80 yX8_isIn ∈ wsL_law := lwm_wsL_law_r11 _ (List.mem_of_getElem? (i := 14) rfl)
theorem wl_255 : Cond.static yX8_isIn ∈ wsL_law := lwm_wsL_law_r11 _ (List.mem_of_getElem? (i := 15) rfl)
theorem wl_256 : Cond.code yX8_isIn cX8_isIn 2 (some .boolean) ∈ wsL_law := lwm_wsL_law_r11 _ (List.mem_of_getElem? (i := 16) rfl)
theorem wl_257 : Cond.methodLink RX8 91 yX8_refuseFar ∈ wsL_law := lwm_wsL_law_r11 _ (List.mem_of_getElem? (i := 17) rfl)
theorem wl_258 : Cond.instanceMethod yX8_refuseFar ∈ wsL_law := lwm_wsL_law_r11 _ (List.mem_of_getElem? (i := 18) rfl)
theorem wl_259 : Cond.selects RX8 yX8_refuseFar yX8_refuseFar ∈ wsL_law := lwm_wsL_law_r11 _ (List.mem_of_getElem? (i := 19) rfl)
theorem wl_260 : Cond.code yX8_refuseFar cX8_refuseFar 2 (some .int) ∈ wsL_law := lwm_wsL_law_r11 _ (List.mem_of_getElem? (i := 20) rfl)
theorem wl_261 : Cond.constant RX8 50 (1000000000) ∈ wsL_law := lwm_wsL_law_r11 _ (List.mem_of_getElem? (i := 21) rfl)
theorem wl_262 : Cond.methodLink RX8 84 yX8_size ∈ wsL_law := lwm_wsL_law_r11 _ (List.mem_of_getElem? (i := 22) rfl)
theorem wl_263 : Cond.instanceMethod yX8_size ∈ wsL_law := lwm_wsL_law_r11 _ (List.mem_of_getElem? (i := 23) rfl)
theorem wl_264 : Cond.selects RX8 yX8_size yX8_size ∈ wsL_law := lwm_wsL_law_r12 _ (List.mem_of_getElem? (i := 0) rfl)
theorem wl_265 : Cond.code yX8_size cX8_size 2 (some .int) ∈ wsL_law := lwm_wsL_law_r12 _ (List.mem_of_getElem? (i := 1) rfl)
theorem wl_266 : Cond.methodLink RX8 94 yX8_kind ∈ wsL_law := lwm_wsL_law_r12 _ (List.mem_of_getElem? (i := 2) rfl)
theorem wl_267 : Cond.instanceMethod yX8_kind ∈ wsL_law := lwm_wsL_law_r12 _ (List.mem_of_getElem? (i := 3) rfl)
theorem wl_268 : Cond.selects RX8 yX8_kind yX8_kind ∈ wsL_law := lwm_wsL_law_r12 _ (List.mem_of_getElem? (i := 4) rfl)
theorem wl_269 : Cond.code yX8_kind cX8_kind 3 (some .int) ∈ wsL_law := lwm_wsL_law_r12 _ (List.mem_of_getElem? (i := 5) rfl)
theorem wl_270 : Cond.methodLink RX8 97 yX8_isPlain ∈ wsL_law := lwm_wsL_law_r12 _ (List.mem_of_getElem? (i := 6) rfl)
theorem wl_271 : Cond.instanceMethod yX8_isPlain ∈ wsL_law := lwm_wsL_law_r12 _ (List.mem_of_getElem? (i := 7) rfl)
theorem wl_272 : Cond.selects RX8 yX8_isPlain yX8_isPlain ∈ wsL_law := lwm_wsL_law_r12 _ (List.mem_of_getElem? (i := 8) rfl)
theorem wl_273 : Cond.code yX8_isPlain cX8_isPlain 2 (some .boolean) ∈ wsL_law := lwm_wsL_law_r12 _ (List.mem_of_getElem? (i := 9) rfl)
theorem wl_274 : Cond.methodLink RX8 100 yX8_figure ∈ wsL_law := lwm_wsL_law_r12 _ (List.mem_of_getElem? (i := 10) rfl)
theorem wl_275 : Cond.instanceMethod yX8_figure ∈ wsL_law := lwm_wsL_law_r12 _ (List.mem_of_getElem? (i := 11) rfl)
theorem wl_276 : Cond.selects RX8 yX8_figure yX8_figure ∈ wsL_law := lwm_wsL_law_r12 _ (List.mem_of_getElem? (i := 12) rfl)
theorem wl_277 : Cond.code yX8_figure cX8_figure 2 (some .int) ∈ wsL_law := lwm_wsL_law_r12 _ (List.mem_of_getElem? (i := 13) rfl)
theorem wl_278 : Cond.methodLink RX8 103 yX8_power ∈ wsL_law := lwm_wsL_law_r12 _ (List.mem_of_getElem? (i := 14) rfl)
theorem wl_279 : Cond.instanceMethod yX8_power ∈ wsL_law := lwm_wsL_law_r12 _ (List.mem_of_getElem? (i := 15) rfl)
theorem wl_280 : Cond.selects RX8 yX8_power yX8_power ∈ wsL_law := lwm_wsL_law_r12 _ (List.mem_of_getElem? (i := 16) rfl)
theorem wl_281 : Cond.code yX8_power cX8_power 2 (some .int) ∈ wsL_law := lwm_wsL_law_r12 _ (List.mem_of_getElem? (i := 17) rfl)
theorem wl_282 : Cond.methodLink RL 22 yX7_next ∈ wsL_law := lwm_wsL_law_r12 _ (List.mem_of_getElem? (i := 18) rfl)
theorem wl_283 : Cond.instanceMethod yX7_next ∈ wsL_law := lwm_wsL_law_r12 _ (List.mem_of_getElem? (i := 19) rfl)
theorem wl_284 : Cond.selects RX7 yX7_next yX7_next ∈ wsL_law := lwm_wsL_law_r12 _ (List.mem_of_getElem? (i := 20) rfl)
theorem wl_285 : Cond.code yX7_next cX7_next 2 (some .int) ∈ wsL_law := lwm_wsL_law_r12 _ (List.mem_of_getElem? (i := 21) rfl)
theorem wl_286 : Cond.methodLink RX7 110 yX1_codeAbove ∈ wsL_law := lwm_wsL_law_r12 _ (List.mem_of_getElem? (i := 22) rfl)
theorem wl_287 : Cond.instanceMethod yX1_codeAbove ∈ wsL_law := lwm_wsL_law_r12 _ (List.mem_of_getElem? (i := 23) rfl)
theorem wl_288 : Cond.selects RX1 yX1_codeAbove yX1_codeAbove ∈ wsL_law := lwm_wsL_law_r13 _ (List.mem_of_getElem? (i := 0) rfl)
theorem wl_289 : Cond.code yX1_codeAbove cX1_codeAbove 3 (some .int) ∈ wsL_law := lwm_wsL_law_r13 _ (List.mem_of_getElem? (i := 1) rfl)
theorem wl_290 : Cond.methodLink RX1 76 yX1_stepsFromZero ∈ wsL_law := lwm_wsL_law_r13 _ (List.mem_of_getElem? (i := 2) rfl)
theorem wl_291 : Cond.instanceMethod yX1_stepsFromZero ∈ wsL_law := lwm_wsL_law_r13 _ (List.mem_of_getElem? (i := 3) rfl)
theorem wl_292 : Cond.selects RX1 yX1_stepsFromZero yX1_stepsFromZero ∈ wsL_law := lwm_wsL_law_r13 _ (List.mem_of_getElem? (i := 4) rfl)
theorem wl_293 : Cond.code yX1_stepsFromZero cX1_stepsFromZero 2 (some .int) ∈ wsL_law := lwm_wsL_law_r13 _ (List.mem_of_getElem? (i := 5) rfl)
theorem wl_294 : Cond.methodLink RX1 73 yX1_isBelow ∈ wsL_law := lwm_wsL_law_r13 _ (List.mem_of_getElem? (i := 6) rfl)
theorem wl_295 : Cond.methodLink RL 26 yX8_next ∈ wsL_law := lwm_wsL_law_r13 _ (List.mem_of_getElem? (i := 7) rfl)
theorem wl_296 : Cond.instanceMethod yX8_next ∈ wsL_law := lwm_wsL_law_r13 _ (List.mem_of_getElem? (i := 8) rfl)
theorem wl_297 : Cond.selects RX8 yX8_next yX8_next ∈ wsL_law := lwm_wsL_law_r13 _ (List.mem_of_getElem? (i := 9) rfl)
theorem wl_298 : Cond.code yX8_next cX8_next 3 (some .int) ∈ wsL_law := lwm_wsL_law_r13 _ (List.mem_of_getElem? (i := 10) rfl)
theorem wl_299 : Cond.methodLink RL 27 yX7_between ∈ wsL_law := lwm_wsL_law_r13 _ (List.mem_of_getElem? (i := 11) rfl)
theorem wl_300 : Cond.instanceMethod yX7_between ∈ wsL_law := lwm_wsL_law_r13 _ (List.mem_of_getElem? (i := 12) rfl)
theorem wl_301 : Cond.selects RX7 yX7_between yX7_between ∈ wsL_law := lwm_wsL_law_r13 _ (List.mem_of_getElem? (i := 13) rfl)
theorem wl_302 : Cond.code yX7_between cX7_between 4 (some .int) ∈ wsL_law := lwm_wsL_law_r13 _ (List.mem_of_getElem? (i := 14) rfl)
theorem wl_303 : Cond.methodLink RX7 116 Lib.Math.abs.name ∈ wsL_law := lwm_wsL_law_r13 _ (List.mem_of_getElem? (i := 15) rfl)
theorem wl_304 : Cond.static Lib.Math.abs.name ∈ wsL_law := lwm_wsL_law_r13 _ (List.mem_of_getElem? (i := 16) rfl)
theorem wl_305 : Cond.code Lib.Math.abs.name Lib.Math.abs.code 1 (some .int) ∈ wsL_law := lwm_wsL_law_r13 _ (List.mem_of_getElem? (i := 17) rfl)
theorem wl_306 : Cond.methodLink RX7 121 Lib.Math.max.name ∈ wsL_law := lwm_wsL_law_r13 _ (List.mem_of_getElem? (i := 18) rfl)
theorem wl_307 : Cond.methodLink RX7 113 yX1_stepsFromZero ∈ wsL_law := lwm_wsL_law_r13 _ (List.mem_of_getElem? (i := 19) rfl)
theorem wl_308 : Cond.methodLink RL 30 yX8_between ∈ wsL_law := lwm_wsL_law_r13 _ (List.mem_of_getElem? (i := 20) rfl)
theorem wl_309 : Cond.instanceMethod yX8_between ∈ wsL_law := lwm_wsL_law_r13 _ (List.mem_of_getElem? (i := 21) rfl)
theorem wl_310 : Cond.selects RX8 yX8_between yX8_between ∈ wsL_law := lwm_wsL_law_r13 _ (List.mem_of_getElem? (i := 22) rfl)
theorem wl_311 : Cond.code yX8_between cX8_between 4 (some .int) ∈ wsL_law := lwm_wsL_law_r13 _ (List.mem_of_getElem? (i := 23) rfl)
theorem wl_312 : Cond.methodLink RX8 109 Lib.Math.abs.name ∈ wsL_law := lwm_wsL_law_r14 _ (List.mem_of_getElem? (i := 0) rfl)
theorem wl_313 : Cond.methodLink RX8 106 yX8_placeOf ∈ wsL_law := lwm_wsL_law_r14 _ (List.mem_of_getElem? (i := 1) rfl)
theorem wl_314 : Cond.instanceMethod yX8_placeOf ∈ wsL_law := lwm_wsL_law_r14 _ (List.mem_of_getElem? (i := 2) rfl)
theorem wl_315 : Cond.selects RX8 yX8_placeOf yX8_placeOf ∈ wsL_law := lwm_wsL_law_r14 _ (List.mem_of_getElem? (i := 3) rfl)
theorem wl_316 : Cond.code yX8_placeOf cX8_placeOf 2 (some .int) ∈ wsL_law := lwm_wsL_law_r14 _ (List.mem_of_getElem? (i := 4) rfl)
theorem wl_317 : Cond.methodLink RL 31 yX7_round ∈ wsL_law := lwm_wsL_law_r14 _ (List.mem_of_getElem? (i := 5) rfl)
theorem wl_318 : Cond.instanceMethod yX7_round ∈ wsL_law := lwm_wsL_law_r14 _ (List.mem_of_getElem? (i := 6) rfl)
theorem wl_319 : Cond.selects RX7 yX7_round yX7_round ∈ wsL_law := lwm_wsL_law_r14 _ (List.mem_of_getElem? (i := 7) rfl)
theorem wl_320 : Cond.code yX7_round cX7_round 4 (some .int) ∈ wsL_law := lwm_wsL_law_r14 _ (List.mem_of_getElem? (i := 8) rfl)
theorem wl_321 : Cond.constant RX7 128 (-100000) ∈ wsL_law := lwm_wsL_law_r14 _ (List.mem_of_getElem? (i := 9) rfl)
theorem wl_322 : Cond.constant RX7 129 (100000) ∈ wsL_law := lwm_wsL_law_r14 _ (List.mem_of_getElem? (i := 10) rfl)
theorem wl_323 : Cond.methodLink RX7 125 yX7_isRounding ∈ wsL_law := lwm_wsL_law_r14 _ (List.mem_of_getElem? (i := 11) rfl)
theorem wl_324 : Cond.static yX7_isRounding ∈ wsL_law := lwm_wsL_law_r14 _ (List.mem_of_getElem? (i := 12) rfl)
theorem wl_325 : Cond.code yX7_isRounding cX7_isRounding 1 (some .boolean) ∈ wsL_law := lwm_wsL_law_r14 _ (List.mem_of_getElem? (i := 13) rfl)
theorem wl_326 : Cond.methodLink RX7 130 yX3_lay ∈ wsL_law := lwm_wsL_law_r14 _ (List.mem_of_getElem? (i := 14) rfl)
theorem wl_327 : Cond.instanceMethod yX3_lay ∈ wsL_law := lwm_wsL_law_r14 _ (List.mem_of_getElem? (i := 15) rfl)
theorem wl_328 : Cond.selects RX3 yX3_lay yX3_lay ∈ wsL_law := lwm_wsL_law_r14 _ (List.mem_of_getElem? (i := 16) rfl)
theorem wl_329 : Cond.code yX3_lay cX3_lay 11 none ∈ wsL_law := lwm_wsL_law_r14 _ (List.mem_of_getElem? (i := 17) rfl)
theorem wl_330 : Cond.methodLink RX3 27 Lib.Math.max.name ∈ wsL_law := lwm_wsL_law_r14 _ (List.mem_of_getElem? (i := 18) rfl)
theorem wl_331 : Cond.fieldLink RX3 40 "HardBench$Place" "more" "Z" ∈ wsL_law := lwm_wsL_law_r14 _ (List.mem_of_getElem? (i := 19) rfl)
theorem wl_332 : Cond.fieldLink RX3 44 "HardBench$Place" "way" "I" ∈ wsL_law := lwm_wsL_law_r14 _ (List.mem_of_getElem? (i := 20) rfl)
theorem wl_333 : Cond.fieldLink RX3 51 "HardBench$Place" "beyond" "Z" ∈ wsL_law := lwm_wsL_law_r14 _ (List.mem_of_getElem? (i := 21) rfl)
theorem wl_334 : Cond.fieldLink RX3 54 "HardBench$Place" "lower" "I" ∈ wsL_law := lwm_wsL_law_r14 _ (List.mem_of_getElem? (i := 22) rfl)
theorem wl_335 : Cond.methodLink RX3 15 yJ13_numberOfLeadingZeros_95d88 ∈ wsL_law := lwm_wsL_law_r14 _ (List.mem_of_getElem? (i := 23) rfl)
theorem wl_336 : Cond.static yJ13_numberOfLeadingZeros_95d88 ∈ wsL_law := lwm_wsL_law_r15 _ (List.mem_of_getElem? (i := 0) rfl)
theorem wl_337 : Cond.initialized RJ13 ∈ wsL_law := lwm_wsL_law_r15 _ (List.mem_of_getElem? (i := 1) rfl)
theorem wl_338 : Cond.code yJ13_numberOfLeadingZeros_95d88 cJ13_numberOfLeadingZeros_95d88 3 (some .int) ∈ wsL_law := lwm_wsL_law_r15 _ (List.mem_of_getElem? (i := 2) rfl)
theorem wl_339 : Cond.methodLink RJ13 308 yJ6_numberOfLeadingZeros_0f7a4 ∈ wsL_law := lwm_wsL_law_r15 _ (List.mem_of_getElem? (i := 3) rfl)
theorem wl_340 : Cond.static yJ6_numberOfLeadingZeros_0f7a4 ∈ wsL_law := lwm_wsL_law_r15 _ (List.mem_of_getElem? (i := 4) rfl)
theorem wl_341 : Cond.code yJ6_numberOfLeadingZeros_0f7a4 cJ6_numberOfLeadingZeros_0f7a4 2 (some .int) ∈ wsL_law := lwm_wsL_law_r15 _ (List.mem_of_getElem? (i := 5) rfl)
theorem wl_342 : Cond.methodLink RX3 36 yX3_shifted ∈ wsL_law := lwm_wsL_law_r15 _ (List.mem_of_getElem? (i := 6) rfl)
theorem wl_343 : Cond.static yX3_shifted ∈ wsL_law := lwm_wsL_law_r15 _ (List.mem_of_getElem? (i := 7) rfl)
theorem wl_344 : Cond.code yX3_shifted cX3_shifted 3 (some .long) ∈ wsL_law := lwm_wsL_law_r15 _ (List.mem_of_getElem? (i := 8) rfl)
theorem wl_345 : Cond.methodLink RX3 47 yX1_greatestPlain ∈ wsL_law := lwm_wsL_law_r15 _ (List.mem_of_getElem? (i := 9) rfl)
theorem wl_346 : Cond.instanceMethod yX1_greatestPlain ∈ wsL_law := lwm_wsL_law_r15 _ (List.mem_of_getElem? (i := 10) rfl)
theorem wl_347 : Cond.selects RX1 yX1_greatestPlain yX1_greatestPlain ∈ wsL_law := lwm_wsL_law_r15 _ (List.mem_of_getElem? (i := 11) rfl)
theorem wl_348 : Cond.code yX1_greatestPlain cX1_greatestPlain 1 (some .int) ∈ wsL_law := lwm_wsL_law_r15 _ (List.mem_of_getElem? (i := 12) rfl)
theorem wl_349 : Cond.methodLink RX7 134 yX3_rounded ∈ wsL_law := lwm_wsL_law_r15 _ (List.mem_of_getElem? (i := 13) rfl)
theorem wl_350 : Cond.instanceMethod yX3_rounded ∈ wsL_law := lwm_wsL_law_r15 _ (List.mem_of_getElem? (i := 14) rfl)
theorem wl_351 : Cond.selects RX3 yX3_rounded yX3_rounded ∈ wsL_law := lwm_wsL_law_r15 _ (List.mem_of_getElem? (i := 15) rfl)
theorem wl_352 : Cond.code yX3_rounded cX3_rounded 5 (some .int) ∈ wsL_law := lwm_wsL_law_r15 _ (List.mem_of_getElem? (i := 16) rfl)
theorem wl_353 : Cond.methodLink RX3 60 yX3_takesUpper ∈ wsL_law := lwm_wsL_law_r15 _ (List.mem_of_getElem? (i := 17) rfl)
theorem wl_354 : Cond.instanceMethod yX3_takesUpper ∈ wsL_law := lwm_wsL_law_r15 _ (List.mem_of_getElem? (i := 18) rfl)
theorem wl_355 : Cond.selects RX3 yX3_takesUpper yX3_takesUpper ∈ wsL_law := lwm_wsL_law_r15 _ (List.mem_of_getElem? (i := 19) rfl)
theorem wl_356 : Cond.code yX3_takesUpper cX3_takesUpper 4 (some .boolean) ∈ wsL_law := lwm_wsL_law_r15 _ (List.mem_of_getElem? (i := 20) rfl)
theorem wl_357 : Cond.methodLink RX3 57 yX3_sortLaid ∈ wsL_law := lwm_wsL_law_r15 _ (List.mem_of_getElem? (i := 21) rfl)
theorem wl_358 : Cond.instanceMethod yX3_sortLaid ∈ wsL_law := lwm_wsL_law_r15 _ (List.mem_of_getElem? (i := 22) rfl)
theorem wl_359 : Cond.selects RX3 yX3_sortLaid yX3_sortLaid ∈ wsL_law := lwm_wsL_law_r15 _ (List.mem_of_getElem? (i := 23) rfl)
theorem wl_360 : Cond.code yX3_sortLaid cX3_sortLaid 1 (some .int) ∈ wsL_law := lwm_wsL_law_r16 _ (List.mem_of_getElem? (i := 0) rfl)
theorem wl_361 : Cond.methodLink RL 35 yX8_round ∈ wsL_law := lwm_wsL_law_r16 _ (List.mem_of_getElem? (i := 1) rfl)
theorem wl_362 : Cond.instanceMethod yX8_round ∈ wsL_law := lwm_wsL_law_r16 _ (List.mem_of_getElem? (i := 2) rfl)
theorem wl_363 : Cond.selects RX8 yX8_round yX8_round ∈ wsL_law := lwm_wsL_law_r16 _ (List.mem_of_getElem? (i := 3) rfl)
theorem wl_364 : Cond.code yX8_round cX8_round 4 (some .int) ∈ wsL_law := lwm_wsL_law_r16 _ (List.mem_of_getElem? (i := 4) rfl)
theorem wl_365 : Cond.constant RX8 148 (-100000) ∈ wsL_law := lwm_wsL_law_r16 _ (List.mem_of_getElem? (i := 5) rfl)
theorem wl_366 : Cond.constant RX8 149 (100000) ∈ wsL_law := lwm_wsL_law_r16 _ (List.mem_of_getElem? (i := 6) rfl)
theorem wl_367 : Cond.fieldLink RX8 118 "HardBenchModel" "function" "I" ∈ wsL_law := lwm_wsL_law_r16 _ (List.mem_of_getElem? (i := 7) rfl)
theorem wl_368 : Cond.fieldLink RX8 121 "HardBenchModel" "atM" "J" ∈ wsL_law := lwm_wsL_law_r16 _ (List.mem_of_getElem? (i := 8) rfl)
theorem wl_369 : Cond.fieldLink RX8 125 "HardBenchModel" "atX" "I" ∈ wsL_law := lwm_wsL_law_r16 _ (List.mem_of_getElem? (i := 9) rfl)
theorem wl_370 : Cond.methodLink RX8 150 yX8_rounded ∈ wsL_law := lwm_wsL_law_r16 _ (List.mem_of_getElem? (i := 10) rfl)
theorem wl_371 : Cond.instanceMethod yX8_rounded ∈ wsL_law := lwm_wsL_law_r16 _ (List.mem_of_getElem? (i := 11) rfl)
theorem wl_372 : Cond.selects RX8 yX8_rounded yX8_rounded ∈ wsL_law := lwm_wsL_law_r16 _ (List.mem_of_getElem? (i := 12) rfl)
theorem wl_373 : Cond.code yX8_rounded cX8_rounded 7 (some .int) ∈ wsL_law := lwm_wsL_law_r16 _ (List.mem_of_getElem? (i := 13) rfl)
theorem wl_374 : Cond.methodLink RX8 138 yX8_floor ∈ wsL_law := lwm_wsL_law_r16 _ (List.mem_of_getElem? (i := 14) rfl)
theorem wl_375 : Cond.instanceMethod yX8_floor ∈ wsL_law := lwm_wsL_law_r16 _ (List.mem_of_getElem? (i := 15) rfl)
theorem wl_376 : Cond.selects RX8 yX8_floor yX8_floor ∈ wsL_law := lwm_wsL_law_r16 _ (List.mem_of_getElem? (i := 16) rfl)
theorem wl_377 : Cond.code yX8_floor cX8_floor 4 (some .int) ∈ wsL_law := lwm_wsL_law_r16 _ (List.mem_of_getElem? (i := 17) rfl)
theorem wl_378 : Cond.methodLink RX8 132 yX8_stands ∈ wsL_law := lwm_wsL_law_r16 _ (List.mem_of_getElem? (i := 18) rfl)
theorem wl_379 : Cond.instanceMethod yX8_stands ∈ wsL_law := lwm_wsL_law_r16 _ (List.mem_of_getElem? (i := 19) rfl)
theorem wl_380 : Cond.selects RX8 yX8_stands yX8_stands ∈ wsL_law := lwm_wsL_law_r16 _ (List.mem_of_getElem? (i := 20) rfl)
theorem wl_381 : Cond.code yX8_stands cX8_stands 4 (some .int) ∈ wsL_law := lwm_wsL_law_r16 _ (List.mem_of_getElem? (i := 21) rfl)
theorem wl_382 : Cond.methodLink RX8 128 yX8_compare ∈ wsL_law := lwm_wsL_law_r16 _ (List.mem_of_getElem? (i := 22) rfl)
theorem wl_383 : Cond.static yX8_compare ∈ wsL_law := lwm_wsL_law_r16 _ (List.mem_of_getElem? (i := 23) rfl)
theorem wl_384 : Cond.code yX8_compare cX8_compare 12 (some .int) ∈ wsL_law := lwm_wsL_law_r17 _ (List.mem_of_getElem? (i := 0) rfl)
theorem wl_385 : Cond.methodLink RX8 114 yX8_bits ∈ wsL_law := lwm_wsL_law_r17 _ (List.mem_of_getElem? (i := 1) rfl)
theorem wl_386 : Cond.static yX8_bits ∈ wsL_law := lwm_wsL_law_r17 _ (List.mem_of_getElem? (i := 2) rfl)
theorem wl_387 : Cond.code yX8_bits cX8_bits 5 (some .int) ∈ wsL_law := lwm_wsL_law_r17 _ (List.mem_of_getElem? (i := 3) rfl)
theorem wl_388 : Cond.methodLink RX8 142 yX8_isFloat ∈ wsL_law := lwm_wsL_law_r17 _ (List.mem_of_getElem? (i := 4) rfl)
theorem wl_389 : Cond.instanceMethod yX8_isFloat ∈ wsL_law := lwm_wsL_law_r17 _ (List.mem_of_getElem? (i := 5) rfl)
theorem wl_390 : Cond.selects RX8 yX8_isFloat yX8_isFloat ∈ wsL_law := lwm_wsL_law_r17 _ (List.mem_of_getElem? (i := 6) rfl)
theorem wl_391 : Cond.code yX8_isFloat cX8_isFloat 2 (some .boolean) ∈ wsL_law := lwm_wsL_law_r17 _ (List.mem_of_getElem? (i := 7) rfl)
theorem wl_392 : Cond.methodLink RX8 145 yX8_middle ∈ wsL_law := lwm_wsL_law_r17 _ (List.mem_of_getElem? (i := 8) rfl)
theorem wl_393 : Cond.instanceMethod yX8_middle ∈ wsL_law := lwm_wsL_law_r17 _ (List.mem_of_getElem? (i := 9) rfl)
theorem wl_394 : Cond.selects RX8 yX8_middle yX8_middle ∈ wsL_law := lwm_wsL_law_r17 _ (List.mem_of_getElem? (i := 10) rfl)
theorem wl_395 : Cond.code yX8_middle cX8_middle 2 (some .int) ∈ wsL_law := lwm_wsL_law_r17 _ (List.mem_of_getElem? (i := 11) rfl)
theorem wl_396 : Cond.constantLong RX8 136 (2) ∈ wsL_law := lwm_wsL_law_r17 _ (List.mem_of_getElem? (i := 12) rfl)
theorem wl_397 : Cond.methodLink RL 36 yX7_right ∈ wsL_law := lwm_wsL_law_r17 _ (List.mem_of_getElem? (i := 13) rfl)
theorem wl_398 : Cond.instanceMethod yX7_right ∈ wsL_law := lwm_wsL_law_r17 _ (List.mem_of_getElem? (i := 14) rfl)
theorem wl_399 : Cond.selects RX7 yX7_right yX7_right ∈ wsL_law := lwm_wsL_law_r17 _ (List.mem_of_getElem? (i := 15) rfl)
theorem wl_400 : Cond.code yX7_right cX7_right 4 (some .int) ∈ wsL_law := lwm_wsL_law_r17 _ (List.mem_of_getElem? (i := 16) rfl)
theorem wl_401 : Cond.methodLink RX7 138 yX7_isFunction ∈ wsL_law := lwm_wsL_law_r17 _ (List.mem_of_getElem? (i := 17) rfl)
theorem wl_402 : Cond.static yX7_isFunction ∈ wsL_law := lwm_wsL_law_r17 _ (List.mem_of_getElem? (i := 18) rfl)
theorem wl_403 : Cond.code yX7_isFunction cX7_isFunction 1 (some .boolean) ∈ wsL_law := lwm_wsL_law_r17 _ (List.mem_of_getElem? (i := 19) rfl)
theorem wl_404 : Cond.methodLink RX7 141 yX6_resultAt ∈ wsL_law := lwm_wsL_law_r17 _ (List.mem_of_getElem? (i := 20) rfl)
theorem wl_405 : Cond.instanceMethod yX6_resultAt ∈ wsL_law := lwm_wsL_law_r17 _ (List.mem_of_getElem? (i := 21) rfl)
theorem wl_406 : Cond.selects RX6 yX6_resultAt yX6_resultAt ∈ wsL_law := lwm_wsL_law_r17 _ (List.mem_of_getElem? (i := 22) rfl)
theorem wl_407 : Cond.code yX6_resultAt cX6_resultAt 4 (some .int) ∈ wsL_law := lwm_wsL_law_r17 _ (List.mem_of_getElem? (i := 23) rfl)
theorem wl_408 : Cond.fieldLink RX6 28 "HardBench$Value" "laid" "Z" ∈ wsL_law := lwm_wsL_law_r18 _ (List.mem_of_getElem? (i := 0) rfl)
theorem wl_409 : Cond.fieldLink RX6 32 "HardBench$Value" "below" "Z" ∈ wsL_law := lwm_wsL_law_r18 _ (List.mem_of_getElem? (i := 1) rfl)
theorem wl_410 : Cond.fieldLink RX6 39 "HardBench$Value" "settled" "I" ∈ wsL_law := lwm_wsL_law_r18 _ (List.mem_of_getElem? (i := 2) rfl)
theorem wl_411 : Cond.methodLink RX6 24 yX6_read ∈ wsL_law := lwm_wsL_law_r18 _ (List.mem_of_getElem? (i := 3) rfl)
theorem wl_412 : Cond.instanceMethod yX6_read ∈ wsL_law := lwm_wsL_law_r18 _ (List.mem_of_getElem? (i := 4) rfl)
theorem wl_413 : Cond.selects RX6 yX6_read yX6_read ∈ wsL_law := lwm_wsL_law_r18 _ (List.mem_of_getElem? (i := 5) rfl)
theorem wl_414 : Cond.code yX6_read cX6_read 5 none ∈ wsL_law := lwm_wsL_law_r18 _ (List.mem_of_getElem? (i := 6) rfl)
theorem wl_415 : Cond.fieldLink RX6 76 "HardBench$Value" "m" "J" ∈ wsL_law := lwm_wsL_law_r18 _ (List.mem_of_getElem? (i := 7) rfl)
theorem wl_416 : Cond.fieldLink RX6 80 "HardBench$Value" "x" "I" ∈ wsL_law := lwm_wsL_law_r18 _ (List.mem_of_getElem? (i := 8) rfl)
theorem wl_417 : Cond.fieldLink RX6 83 "HardBench$Value" "more" "Z" ∈ wsL_law := lwm_wsL_law_r18 _ (List.mem_of_getElem? (i := 9) rfl)
theorem wl_418 : Cond.fieldLink RX6 43 "HardBench$Value" "sort" "I" ∈ wsL_law := lwm_wsL_law_r18 _ (List.mem_of_getElem? (i := 10) rfl)
theorem wl_419 : Cond.methodLink RX6 53 yX1_isZero ∈ wsL_law := lwm_wsL_law_r18 _ (List.mem_of_getElem? (i := 11) rfl)
theorem wl_420 : Cond.methodLink RX6 59 yX1_isBelow ∈ wsL_law := lwm_wsL_law_r18 _ (List.mem_of_getElem? (i := 12) rfl)
theorem wl_421 : Cond.methodLink RX6 62 yX1_isPlain ∈ wsL_law := lwm_wsL_law_r18 _ (List.mem_of_getElem? (i := 13) rfl)
theorem wl_422 : Cond.methodLink RX6 65 yX1_factor ∈ wsL_law := lwm_wsL_law_r18 _ (List.mem_of_getElem? (i := 14) rfl)
theorem wl_423 : Cond.methodLink RX6 69 yX1_power ∈ wsL_law := lwm_wsL_law_r18 _ (List.mem_of_getElem? (i := 15) rfl)
theorem wl_424 : Cond.methodLink RX6 72 yX6_reckon ∈ wsL_law := lwm_wsL_law_r18 _ (List.mem_of_getElem? (i := 16) rfl)
theorem wl_425 : Cond.instanceMethod yX6_reckon ∈ wsL_law := lwm_wsL_law_r18 _ (List.mem_of_getElem? (i := 17) rfl)
theorem wl_426 : Cond.selects RX6 yX6_reckon yX6_reckon ∈ wsL_law := lwm_wsL_law_r18 _ (List.mem_of_getElem? (i := 18) rfl)
theorem wl_427 : Cond.code yX6_reckon cX6_reckon 6 none ∈ wsL_law := lwm_wsL_law_r18 _ (List.mem_of_getElem? (i := 19) rfl)
theorem wl_428 : Cond.methodLink RX6 109 yX6_reckonOver ∈ wsL_law := lwm_wsL_law_r18 _ (List.mem_of_getElem? (i := 20) rfl)
theorem wl_429 : Cond.instanceMethod yX6_reckonOver ∈ wsL_law := lwm_wsL_law_r18 _ (List.mem_of_getElem? (i := 21) rfl)
theorem wl_430 : Cond.selects RX6 yX6_reckonOver yX6_reckonOver ∈ wsL_law := lwm_wsL_law_r18 _ (List.mem_of_getElem? (i := 22) rfl)
theorem wl_431 : Cond.code yX6_reckonOver cX6_reckonOver 7 none ∈ wsL_law := lwm_wsL_law_r18 _ (List.mem_of_getElem? (i := 23) rfl)
theorem wl_432 : Cond.constantLong RX6 121 (1099511627776) ∈ wsL_law := lwm_wsL_law_r19 _ (List.mem_of_getElem? (i := 0) rfl)
theorem wl_433 : Cond.methodLink RX6 118 yX6_keep ∈ wsL_law := lwm_wsL_law_r19 _ (List.mem_of_getElem? (i := 1) rfl)
theorem wl_434 : Cond.instanceMethod yX6_keep ∈ wsL_law := lwm_wsL_law_r19 _ (List.mem_of_getElem? (i := 2) rfl)
theorem wl_435 : Cond.selects RX6 yX6_keep yX6_keep ∈ wsL_law := lwm_wsL_law_r19 _ (List.mem_of_getElem? (i := 3) rfl)
theorem wl_436 : Cond.code yX6_keep cX6_keep 5 none ∈ wsL_law := lwm_wsL_law_r19 _ (List.mem_of_getElem? (i := 4) rfl)
theorem wl_437 : Cond.methodLink RX6 112 yX6_reckonRoot ∈ wsL_law := lwm_wsL_law_r19 _ (List.mem_of_getElem? (i := 5) rfl)
theorem wl_438 : Cond.instanceMethod yX6_reckonRoot ∈ wsL_law := lwm_wsL_law_r19 _ (List.mem_of_getElem? (i := 6) rfl)
theorem wl_439 : Cond.selects RX6 yX6_reckonRoot yX6_reckonRoot ∈ wsL_law := lwm_wsL_law_r19 _ (List.mem_of_getElem? (i := 7) rfl)
theorem wl_440 : Cond.code yX6_reckonRoot cX6_reckonRoot 11 none ∈ wsL_law := lwm_wsL_law_r19 _ (List.mem_of_getElem? (i := 8) rfl)
theorem wl_441 : Cond.methodLink RX6 123 yJ6_numberOfLeadingZeros_0f7a4 ∈ wsL_law := lwm_wsL_law_r19 _ (List.mem_of_getElem? (i := 9) rfl)
theorem wl_442 : Cond.methodLink RX6 128 yJ9_floorMod_7cf53 ∈ wsL_law := lwm_wsL_law_r19 _ (List.mem_of_getElem? (i := 10) rfl)
theorem wl_443 : Cond.static yJ9_floorMod_7cf53 ∈ wsL_law := lwm_wsL_law_r19 _ (List.mem_of_getElem? (i := 11) rfl)
theorem wl_444 : Cond.initialized RJ9 ∈ wsL_law := lwm_wsL_law_r19 _ (List.mem_of_getElem? (i := 12) rfl)
theorem wl_445 : Cond.code yJ9_floorMod_7cf53 cJ9_floorMod_7cf53 3 (some .int) ∈ wsL_law := lwm_wsL_law_r19 _ (List.mem_of_getElem? (i := 13) rfl)
theorem wl_446 : Cond.methodLink RX6 133 yJ9_floorDiv_7cf53 ∈ wsL_law := lwm_wsL_law_r19 _ (List.mem_of_getElem? (i := 14) rfl)
theorem wl_447 : Cond.static yJ9_floorDiv_7cf53 ∈ wsL_law := lwm_wsL_law_r19 _ (List.mem_of_getElem? (i := 15) rfl)
theorem wl_448 : Cond.code yJ9_floorDiv_7cf53 cJ9_floorDiv_7cf53 3 (some .int) ∈ wsL_law := lwm_wsL_law_r19 _ (List.mem_of_getElem? (i := 16) rfl)
theorem wl_449 : Cond.methodLink RX6 115 yX6_reckonThird ∈ wsL_law := lwm_wsL_law_r19 _ (List.mem_of_getElem? (i := 17) rfl)
theorem wl_450 : Cond.instanceMethod yX6_reckonThird ∈ wsL_law := lwm_wsL_law_r19 _ (List.mem_of_getElem? (i := 18) rfl)
theorem wl_451 : Cond.selects RX6 yX6_reckonThird yX6_reckonThird ∈ wsL_law := lwm_wsL_law_r19 _ (List.mem_of_getElem? (i := 19) rfl)
theorem wl_452 : Cond.code yX6_reckonThird cX6_reckonThird 11 none ∈ wsL_law := lwm_wsL_law_r19 _ (List.mem_of_getElem? (i := 20) rfl)
theorem wl_453 : Cond.methodLink RX6 86 yX3_lay ∈ wsL_law := lwm_wsL_law_r19 _ (List.mem_of_getElem? (i := 21) rfl)
theorem wl_454 : Cond.methodLink RX6 90 yX3_sortLaid ∈ wsL_law := lwm_wsL_law_r19 _ (List.mem_of_getElem? (i := 22) rfl)
theorem wl_455 : Cond.methodLink RX6 93 yX6_settledResult ∈ wsL_law := lwm_wsL_law_r19 _ (List.mem_of_getElem? (i := 23) rfl)
theorem wl_456 : Cond.instanceMethod yX6_settledResult ∈ wsL_law := lwm_wsL_law_r20 _ (List.mem_of_getElem? (i := 0) rfl)
theorem wl_457 : Cond.selects RX6 yX6_settledResult yX6_settledResult ∈ wsL_law := lwm_wsL_law_r20 _ (List.mem_of_getElem? (i := 1) rfl)
theorem wl_458 : Cond.code yX6_settledResult cX6_settledResult 7 (some .int) ∈ wsL_law := lwm_wsL_law_r20 _ (List.mem_of_getElem? (i := 2) rfl)
theorem wl_459 : Cond.methodLink RX6 97 yX1_isNone ∈ wsL_law := lwm_wsL_law_r20 _ (List.mem_of_getElem? (i := 3) rfl)
theorem wl_460 : Cond.methodLink RX6 100 yX1_none ∈ wsL_law := lwm_wsL_law_r20 _ (List.mem_of_getElem? (i := 4) rfl)
theorem wl_461 : Cond.instanceMethod yX1_none ∈ wsL_law := lwm_wsL_law_r20 _ (List.mem_of_getElem? (i := 5) rfl)
theorem wl_462 : Cond.selects RX1 yX1_none yX1_none ∈ wsL_law := lwm_wsL_law_r20 _ (List.mem_of_getElem? (i := 6) rfl)
theorem wl_463 : Cond.code yX1_none cX1_none 1 (some .int) ∈ wsL_law := lwm_wsL_law_r20 _ (List.mem_of_getElem? (i := 7) rfl)
theorem wl_464 : Cond.methodLink RX6 35 yX3_rounded ∈ wsL_law := lwm_wsL_law_r20 _ (List.mem_of_getElem? (i := 8) rfl)
theorem wl_465 : Cond.methodLink RL 39 yX8_right ∈ wsL_law := lwm_wsL_law_r20 _ (List.mem_of_getElem? (i := 9) rfl)
theorem wl_466 : Cond.instanceMethod yX8_right ∈ wsL_law := lwm_wsL_law_r20 _ (List.mem_of_getElem? (i := 10) rfl)
theorem wl_467 : Cond.selects RX8 yX8_right yX8_right ∈ wsL_law := lwm_wsL_law_r20 _ (List.mem_of_getElem? (i := 11) rfl)
theorem wl_468 : Cond.code yX8_right cX8_right 4 (some .int) ∈ wsL_law := lwm_wsL_law_r20 _ (List.mem_of_getElem? (i := 12) rfl)
theorem wl_469 : Cond.methodLink RX8 161 yX8_isFunction ∈ wsL_law := lwm_wsL_law_r20 _ (List.mem_of_getElem? (i := 13) rfl)
theorem wl_470 : Cond.static yX8_isFunction ∈ wsL_law := lwm_wsL_law_r20 _ (List.mem_of_getElem? (i := 14) rfl)
theorem wl_471 : Cond.code yX8_isFunction cX8_isFunction 1 (some .boolean) ∈ wsL_law := lwm_wsL_law_r20 _ (List.mem_of_getElem? (i := 15) rfl)
theorem wl_472 : Cond.methodLink RX8 164 yX8_rightOf ∈ wsL_law := lwm_wsL_law_r20 _ (List.mem_of_getElem? (i := 16) rfl)
theorem wl_473 : Cond.instanceMethod yX8_rightOf ∈ wsL_law := lwm_wsL_law_r20 _ (List.mem_of_getElem? (i := 17) rfl)
theorem wl_474 : Cond.selects RX8 yX8_rightOf yX8_rightOf ∈ wsL_law := lwm_wsL_law_r20 _ (List.mem_of_getElem? (i := 18) rfl)
theorem wl_475 : Cond.code yX8_rightOf cX8_rightOf 5 (some .int) ∈ wsL_law := lwm_wsL_law_r20 _ (List.mem_of_getElem? (i := 19) rfl)
theorem wl_476 : Cond.methodLink RX8 154 yX8_plainly ∈ wsL_law := lwm_wsL_law_r20 _ (List.mem_of_getElem? (i := 20) rfl)
theorem wl_477 : Cond.instanceMethod yX8_plainly ∈ wsL_law := lwm_wsL_law_r20 _ (List.mem_of_getElem? (i := 21) rfl)
theorem wl_478 : Cond.selects RX8 yX8_plainly yX8_plainly ∈ wsL_law := lwm_wsL_law_r20 _ (List.mem_of_getElem? (i := 22) rfl)
theorem wl_479 : Cond.code yX8_plainly cX8_plainly 6 (some .int) ∈ wsL_law := lwm_wsL_law_r20 _ (List.mem_of_getElem? (i := 23) rfl)
theorem wl_480 : Cond.methodLink RX8 158 yX8_sets ∈ wsL_law := lwm_wsL_law_r21 _ (List.mem_of_getElem? (i := 0) rfl)
theorem wl_481 : Cond.instanceMethod yX8_sets ∈ wsL_law := lwm_wsL_law_r21 _ (List.mem_of_getElem? (i := 1) rfl)
theorem wl_482 : Cond.selects RX8 yX8_sets yX8_sets ∈ wsL_law := lwm_wsL_law_r21 _ (List.mem_of_getElem? (i := 2) rfl)
theorem wl_483 : Cond.code yX8_sets cX8_sets 3 none ∈ wsL_law := lwm_wsL_law_r21 _ (List.mem_of_getElem? (i := 3) rfl)
theorem wl_484 : Cond.methodLink RL 40 yX7_sort ∈ wsL_law := lwm_wsL_law_r21 _ (List.mem_of_getElem? (i := 4) rfl)
theorem wl_485 : Cond.instanceMethod yX7_sort ∈ wsL_law := lwm_wsL_law_r21 _ (List.mem_of_getElem? (i := 5) rfl)
theorem wl_486 : Cond.selects RX7 yX7_sort yX7_sort ∈ wsL_law := lwm_wsL_law_r21 _ (List.mem_of_getElem? (i := 6) rfl)
theorem wl_487 : Cond.code yX7_sort cX7_sort 3 (some .int) ∈ wsL_law := lwm_wsL_law_r21 _ (List.mem_of_getElem? (i := 7) rfl)
theorem wl_488 : Cond.methodLink RX7 145 yX6_read ∈ wsL_law := lwm_wsL_law_r21 _ (List.mem_of_getElem? (i := 8) rfl)
theorem wl_489 : Cond.methodLink RX7 148 yX6_sortRead ∈ wsL_law := lwm_wsL_law_r21 _ (List.mem_of_getElem? (i := 9) rfl)
theorem wl_490 : Cond.instanceMethod yX6_sortRead ∈ wsL_law := lwm_wsL_law_r21 _ (List.mem_of_getElem? (i := 10) rfl)
theorem wl_491 : Cond.selects RX6 yX6_sortRead yX6_sortRead ∈ wsL_law := lwm_wsL_law_r21 _ (List.mem_of_getElem? (i := 11) rfl)
theorem wl_492 : Cond.code yX6_sortRead cX6_sortRead 1 (some .int) ∈ wsL_law := lwm_wsL_law_r21 _ (List.mem_of_getElem? (i := 12) rfl)
theorem wl_493 : Cond.methodLink RL 43 yX8_sort ∈ wsL_law := lwm_wsL_law_r21 _ (List.mem_of_getElem? (i := 13) rfl)
theorem wl_494 : Cond.instanceMethod yX8_sort ∈ wsL_law := lwm_wsL_law_r21 _ (List.mem_of_getElem? (i := 14) rfl)
theorem wl_495 : Cond.selects RX8 yX8_sort yX8_sort ∈ wsL_law := lwm_wsL_law_r21 _ (List.mem_of_getElem? (i := 15) rfl)
theorem wl_496 : Cond.code yX8_sort cX8_sort 3 (some .int) ∈ wsL_law := lwm_wsL_law_r21 _ (List.mem_of_getElem? (i := 16) rfl)
theorem wl_497 : Cond.methodLink RX8 168 yX8_sortOf ∈ wsL_law := lwm_wsL_law_r21 _ (List.mem_of_getElem? (i := 17) rfl)
theorem wl_498 : Cond.instanceMethod yX8_sortOf ∈ wsL_law := lwm_wsL_law_r21 _ (List.mem_of_getElem? (i := 18) rfl)
theorem wl_499 : Cond.selects RX8 yX8_sortOf yX8_sortOf ∈ wsL_law := lwm_wsL_law_r21 _ (List.mem_of_getElem? (i := 19) rfl)
theorem wl_500 : Cond.code yX8_sortOf cX8_sortOf 4 (some .int) ∈ wsL_law := lwm_wsL_law_r21 _ (List.mem_of_getElem? (i := 20) rfl)
theorem wl_501 : Cond.methodLink RL 44 yX7_figures ∈ wsL_law := lwm_wsL_law_r21 _ (List.mem_of_getElem? (i := 21) rfl)
theorem wl_502 : Cond.instanceMethod yX7_figures ∈ wsL_law := lwm_wsL_law_r21 _ (List.mem_of_getElem? (i := 22) rfl)
theorem wl_503 : Cond.selects RX7 yX7_figures yX7_figures ∈ wsL_law := lwm_wsL_law_r21 _ (List.mem_of_getElem? (i := 23) rfl)
theorem wl_504 : Cond.code yX7_figures cX7_figures 3 (some .int) ∈ wsL_law := lwm_wsL_law_r22 _ (List.mem_of_getElem? (i := 0) rfl)
theorem wl_505 : Cond.methodLink RX7 152 yX6_figuresRead ∈ wsL_law := lwm_wsL_law_r22 _ (List.mem_of_getElem? (i := 1) rfl)
theorem wl_506 : Cond.instanceMethod yX6_figuresRead ∈ wsL_law := lwm_wsL_law_r22 _ (List.mem_of_getElem? (i := 2) rfl)
theorem wl_507 : Cond.selects RX6 yX6_figuresRead yX6_figuresRead ∈ wsL_law := lwm_wsL_law_r22 _ (List.mem_of_getElem? (i := 3) rfl)
theorem wl_508 : Cond.code yX6_figuresRead cX6_figuresRead 1 (some .int) ∈ wsL_law := lwm_wsL_law_r22 _ (List.mem_of_getElem? (i := 4) rfl)
theorem wl_509 : Cond.methodLink RX6 46 yX3_figuresLaid ∈ wsL_law := lwm_wsL_law_r22 _ (List.mem_of_getElem? (i := 5) rfl)
theorem wl_510 : Cond.instanceMethod yX3_figuresLaid ∈ wsL_law := lwm_wsL_law_r22 _ (List.mem_of_getElem? (i := 6) rfl)
theorem wl_511 : Cond.selects RX3 yX3_figuresLaid yX3_figuresLaid ∈ wsL_law := lwm_wsL_law_r22 _ (List.mem_of_getElem? (i := 7) rfl)
theorem wl_512 : Cond.code yX3_figuresLaid cX3_figuresLaid 2 (some .int) ∈ wsL_law := lwm_wsL_law_r22 _ (List.mem_of_getElem? (i := 8) rfl)
theorem wl_513 : Cond.methodLink RL 47 yX8_figures ∈ wsL_law := lwm_wsL_law_r22 _ (List.mem_of_getElem? (i := 9) rfl)
theorem wl_514 : Cond.instanceMethod yX8_figures ∈ wsL_law := lwm_wsL_law_r22 _ (List.mem_of_getElem? (i := 10) rfl)
theorem wl_515 : Cond.selects RX8 yX8_figures yX8_figures ∈ wsL_law := lwm_wsL_law_r22 _ (List.mem_of_getElem? (i := 11) rfl)
theorem wl_516 : Cond.code yX8_figures cX8_figures 3 (some .int) ∈ wsL_law := lwm_wsL_law_r22 _ (List.mem_of_getElem? (i := 12) rfl)
theorem wl_517 : Cond.methodLink RX8 171 yX8_figuresOf ∈ wsL_law := lwm_wsL_law_r22 _ (List.mem_of_getElem? (i := 13) rfl)
theorem wl_518 : Cond.instanceMethod yX8_figuresOf ∈ wsL_law := lwm_wsL_law_r22 _ (List.mem_of_getElem? (i := 14) rfl)
theorem wl_519 : Cond.selects RX8 yX8_figuresOf yX8_figuresOf ∈ wsL_law := lwm_wsL_law_r22 _ (List.mem_of_getElem? (i := 15) rfl)
theorem wl_520 : Cond.code yX8_figuresOf cX8_figuresOf 9 (some .int) ∈ wsL_law := lwm_wsL_law_r22 _ (List.mem_of_getElem? (i := 16) rfl)
theorem wl_521 : Cond.methodLink RL 48 yX7_hard ∈ wsL_law := lwm_wsL_law_r22 _ (List.mem_of_getElem? (i := 17) rfl)
theorem wl_522 : Cond.instanceMethod yX7_hard ∈ wsL_law := lwm_wsL_law_r22 _ (List.mem_of_getElem? (i := 18) rfl)
theorem wl_523 : Cond.selects RX7 yX7_hard yX7_hard ∈ wsL_law := lwm_wsL_law_r22 _ (List.mem_of_getElem? (i := 19) rfl)
theorem wl_524 : Cond.code yX7_hard cX7_hard 3 (some .int) ∈ wsL_law := lwm_wsL_law_r22 _ (List.mem_of_getElem? (i := 20) rfl)
theorem wl_525 : Cond.methodLink RX7 155 yX6_hardnessRead ∈ wsL_law := lwm_wsL_law_r22 _ (List.mem_of_getElem? (i := 21) rfl)
theorem wl_526 : Cond.instanceMethod yX6_hardnessRead ∈ wsL_law := lwm_wsL_law_r22 _ (List.mem_of_getElem? (i := 22) rfl)
theorem wl_527 : Cond.selects RX6 yX6_hardnessRead yX6_hardnessRead ∈ wsL_law := lwm_wsL_law_r22 _ (List.mem_of_getElem? (i := 23) rfl)
theorem wl_528 : Cond.code yX6_hardnessRead cX6_hardnessRead 5 (some .int) ∈ wsL_law := lwm_wsL_law_r23 _ (List.mem_of_getElem? (i := 0) rfl)
theorem wl_529 : Cond.methodLink RX6 50 yX6_figuresRead ∈ wsL_law := lwm_wsL_law_r23 _ (List.mem_of_getElem? (i := 1) rfl)
theorem wl_530 : Cond.methodLink RL 51 yX8_hard ∈ wsL_law := lwm_wsL_law_r23 _ (List.mem_of_getElem? (i := 2) rfl)
theorem wl_531 : Cond.instanceMethod yX8_hard ∈ wsL_law := lwm_wsL_law_r23 _ (List.mem_of_getElem? (i := 3) rfl)
theorem wl_532 : Cond.selects RX8 yX8_hard yX8_hard ∈ wsL_law := lwm_wsL_law_r23 _ (List.mem_of_getElem? (i := 4) rfl)
theorem wl_533 : Cond.code yX8_hard cX8_hard 3 (some .int) ∈ wsL_law := lwm_wsL_law_r23 _ (List.mem_of_getElem? (i := 5) rfl)
theorem wl_534 : Cond.methodLink RX8 174 yX8_hardOf ∈ wsL_law := lwm_wsL_law_r23 _ (List.mem_of_getElem? (i := 6) rfl)
theorem wl_535 : Cond.instanceMethod yX8_hardOf ∈ wsL_law := lwm_wsL_law_r23 _ (List.mem_of_getElem? (i := 7) rfl)
theorem wl_536 : Cond.selects RX8 yX8_hardOf yX8_hardOf ∈ wsL_law := lwm_wsL_law_r23 _ (List.mem_of_getElem? (i := 8) rfl)
theorem wl_537 : Cond.code yX8_hardOf cX8_hardOf 5 (some .int) ∈ wsL_law := lwm_wsL_law_r23 _ (List.mem_of_getElem? (i := 9) rfl)
theorem wl_538 : Cond.methodLink RL 52 yX7_hardest ∈ wsL_law := lwm_wsL_law_r23 _ (List.mem_of_getElem? (i := 10) rfl)
theorem wl_539 : Cond.instanceMethod yX7_hardest ∈ wsL_law := lwm_wsL_law_r23 _ (List.mem_of_getElem? (i := 11) rfl)
theorem wl_540 : Cond.selects RX7 yX7_hardest yX7_hardest ∈ wsL_law := lwm_wsL_law_r23 _ (List.mem_of_getElem? (i := 12) rfl)
theorem wl_541 : Cond.code yX7_hardest cX7_hardest 3 (some .int) ∈ wsL_law := lwm_wsL_law_r23 _ (List.mem_of_getElem? (i := 13) rfl)
theorem wl_542 : Cond.methodLink RX7 158 yX0_take ∈ wsL_law := lwm_wsL_law_r23 _ (List.mem_of_getElem? (i := 14) rfl)
theorem wl_543 : Cond.instanceMethod yX0_take ∈ wsL_law := lwm_wsL_law_r23 _ (List.mem_of_getElem? (i := 15) rfl)
theorem wl_544 : Cond.selects RX0 yX0_take yX0_take ∈ wsL_law := lwm_wsL_law_r23 _ (List.mem_of_getElem? (i := 16) rfl)
theorem wl_545 : Cond.code yX0_take cX0_take 4 none ∈ wsL_law := lwm_wsL_law_r23 _ (List.mem_of_getElem? (i := 17) rfl)
theorem wl_546 : Cond.methodLink RX0 41 yX4_at ∈ wsL_law := lwm_wsL_law_r23 _ (List.mem_of_getElem? (i := 18) rfl)
theorem wl_547 : Cond.methodLink RX0 47 yX4_put ∈ wsL_law := lwm_wsL_law_r23 _ (List.mem_of_getElem? (i := 19) rfl)
theorem wl_548 : Cond.methodLink RX0 57 yX6_read ∈ wsL_law := lwm_wsL_law_r23 _ (List.mem_of_getElem? (i := 20) rfl)
theorem wl_549 : Cond.methodLink RX0 63 yX6_hardnessRead ∈ wsL_law := lwm_wsL_law_r23 _ (List.mem_of_getElem? (i := 21) rfl)
theorem wl_550 : Cond.methodLink RX0 67 yX6_sortRead ∈ wsL_law := lwm_wsL_law_r23 _ (List.mem_of_getElem? (i := 22) rfl)
theorem wl_551 : Cond.methodLink RX0 70 yX4_addOne ∈ wsL_law := lwm_wsL_law_r23 _ (List.mem_of_getElem? (i := 23) rfl)
theorem wl_552 : Cond.methodLink RX0 73 yX0_addToBlock ∈ wsL_law := lwm_wsL_law_r24 _ (List.mem_of_getElem? (i := 0) rfl)
theorem wl_553 : Cond.instanceMethod yX0_addToBlock ∈ wsL_law := lwm_wsL_law_r24 _ (List.mem_of_getElem? (i := 1) rfl)
theorem wl_554 : Cond.selects RX0 yX0_addToBlock yX0_addToBlock ∈ wsL_law := lwm_wsL_law_r24 _ (List.mem_of_getElem? (i := 2) rfl)
theorem wl_555 : Cond.code yX0_addToBlock cX0_addToBlock 3 none ∈ wsL_law := lwm_wsL_law_r24 _ (List.mem_of_getElem? (i := 3) rfl)
theorem wl_556 : Cond.methodLink RX7 162 yX0_hardestCode ∈ wsL_law := lwm_wsL_law_r24 _ (List.mem_of_getElem? (i := 4) rfl)
theorem wl_557 : Cond.instanceMethod yX0_hardestCode ∈ wsL_law := lwm_wsL_law_r24 _ (List.mem_of_getElem? (i := 5) rfl)
theorem wl_558 : Cond.selects RX0 yX0_hardestCode yX0_hardestCode ∈ wsL_law := lwm_wsL_law_r24 _ (List.mem_of_getElem? (i := 6) rfl)
theorem wl_559 : Cond.code yX0_hardestCode cX0_hardestCode 7 (some .int) ∈ wsL_law := lwm_wsL_law_r24 _ (List.mem_of_getElem? (i := 7) rfl)
theorem wl_560 : Cond.methodLink RX0 76 yX0_greatestHardness ∈ wsL_law := lwm_wsL_law_r24 _ (List.mem_of_getElem? (i := 8) rfl)
theorem wl_561 : Cond.instanceMethod yX0_greatestHardness ∈ wsL_law := lwm_wsL_law_r24 _ (List.mem_of_getElem? (i := 9) rfl)
theorem wl_562 : Cond.selects RX0 yX0_greatestHardness yX0_greatestHardness ∈ wsL_law := lwm_wsL_law_r24 _ (List.mem_of_getElem? (i := 10) rfl)
theorem wl_563 : Cond.code yX0_greatestHardness cX0_greatestHardness 3 (some .int) ∈ wsL_law := lwm_wsL_law_r24 _ (List.mem_of_getElem? (i := 11) rfl)
theorem wl_564 : Cond.methodLink RX0 80 yX0_ofHardness ∈ wsL_law := lwm_wsL_law_r24 _ (List.mem_of_getElem? (i := 12) rfl)
theorem wl_565 : Cond.instanceMethod yX0_ofHardness ∈ wsL_law := lwm_wsL_law_r24 _ (List.mem_of_getElem? (i := 13) rfl)
theorem wl_566 : Cond.selects RX0 yX0_ofHardness yX0_ofHardness ∈ wsL_law := lwm_wsL_law_r24 _ (List.mem_of_getElem? (i := 14) rfl)
theorem wl_567 : Cond.code yX0_ofHardness cX0_ofHardness 3 (some .int) ∈ wsL_law := lwm_wsL_law_r24 _ (List.mem_of_getElem? (i := 15) rfl)
theorem wl_568 : Cond.methodLink RX0 84 yX0_inBlock ∈ wsL_law := lwm_wsL_law_r24 _ (List.mem_of_getElem? (i := 16) rfl)
theorem wl_569 : Cond.instanceMethod yX0_inBlock ∈ wsL_law := lwm_wsL_law_r24 _ (List.mem_of_getElem? (i := 17) rfl)
theorem wl_570 : Cond.selects RX0 yX0_inBlock yX0_inBlock ∈ wsL_law := lwm_wsL_law_r24 _ (List.mem_of_getElem? (i := 18) rfl)
theorem wl_571 : Cond.code yX0_inBlock cX0_inBlock 5 (some .int) ∈ wsL_law := lwm_wsL_law_r24 _ (List.mem_of_getElem? (i := 19) rfl)
theorem wl_572 : Cond.methodLink RL 55 yX8_hardest ∈ wsL_law := lwm_wsL_law_r24 _ (List.mem_of_getElem? (i := 20) rfl)
theorem wl_573 : Cond.instanceMethod yX8_hardest ∈ wsL_law := lwm_wsL_law_r24 _ (List.mem_of_getElem? (i := 21) rfl)
theorem wl_574 : Cond.selects RX8 yX8_hardest yX8_hardest ∈ wsL_law := lwm_wsL_law_r24 _ (List.mem_of_getElem? (i := 22) rfl)
theorem wl_575 : Cond.code yX8_hardest cX8_hardest 6 (some .int) ∈ wsL_law := lwm_wsL_law_r24 _ (List.mem_of_getElem? (i := 23) rfl)
theorem wl_576 : Cond.methodLink RX8 181 Lib.Math.max.name ∈ wsL_law := lwm_wsL_law_r25 _ (List.mem_of_getElem? (i := 0) rfl)
theorem wl_577 : Cond.methodLink RX8 177 yX8_know ∈ wsL_law := lwm_wsL_law_r25 _ (List.mem_of_getElem? (i := 1) rfl)
theorem wl_578 : Cond.instanceMethod yX8_know ∈ wsL_law := lwm_wsL_law_r25 _ (List.mem_of_getElem? (i := 2) rfl)
theorem wl_579 : Cond.selects RX8 yX8_know yX8_know ∈ wsL_law := lwm_wsL_law_r25 _ (List.mem_of_getElem? (i := 3) rfl)
theorem wl_580 : Cond.code yX8_know cX8_know 3 none ∈ wsL_law := lwm_wsL_law_r25 _ (List.mem_of_getElem? (i := 4) rfl)
theorem wl_581 : Cond.methodLink RL 56 yX7_count ∈ wsL_law := lwm_wsL_law_r25 _ (List.mem_of_getElem? (i := 5) rfl)
theorem wl_582 : Cond.instanceMethod yX7_count ∈ wsL_law := lwm_wsL_law_r25 _ (List.mem_of_getElem? (i := 6) rfl)
theorem wl_583 : Cond.selects RX7 yX7_count yX7_count ∈ wsL_law := lwm_wsL_law_r25 _ (List.mem_of_getElem? (i := 7) rfl)
theorem wl_584 : Cond.code yX7_count cX7_count 3 (some .int) ∈ wsL_law := lwm_wsL_law_r25 _ (List.mem_of_getElem? (i := 8) rfl)
theorem wl_585 : Cond.methodLink RX7 165 yX0_ofHardness ∈ wsL_law := lwm_wsL_law_r25 _ (List.mem_of_getElem? (i := 9) rfl)
theorem wl_586 : Cond.methodLink RL 59 yX8_count ∈ wsL_law := lwm_wsL_law_r25 _ (List.mem_of_getElem? (i := 10) rfl)
theorem wl_587 : Cond.instanceMethod yX8_count ∈ wsL_law := lwm_wsL_law_r25 _ (List.mem_of_getElem? (i := 11) rfl)
theorem wl_588 : Cond.selects RX8 yX8_count yX8_count ∈ wsL_law := lwm_wsL_law_r25 _ (List.mem_of_getElem? (i := 12) rfl)
theorem wl_589 : Cond.code yX8_count cX8_count 5 (some .int) ∈ wsL_law := lwm_wsL_law_r25 _ (List.mem_of_getElem? (i := 13) rfl)
theorem wl_590 : Cond.methodLink RL 60 yX7_all ∈ wsL_law := lwm_wsL_law_r25 _ (List.mem_of_getElem? (i := 14) rfl)
theorem wl_591 : Cond.instanceMethod yX7_all ∈ wsL_law := lwm_wsL_law_r25 _ (List.mem_of_getElem? (i := 15) rfl)
theorem wl_592 : Cond.selects RX7 yX7_all yX7_all ∈ wsL_law := lwm_wsL_law_r25 _ (List.mem_of_getElem? (i := 16) rfl)
theorem wl_593 : Cond.code yX7_all cX7_all 3 (some .int) ∈ wsL_law := lwm_wsL_law_r25 _ (List.mem_of_getElem? (i := 17) rfl)
theorem wl_594 : Cond.methodLink RX7 168 yX0_ofSort ∈ wsL_law := lwm_wsL_law_r25 _ (List.mem_of_getElem? (i := 18) rfl)
theorem wl_595 : Cond.instanceMethod yX0_ofSort ∈ wsL_law := lwm_wsL_law_r25 _ (List.mem_of_getElem? (i := 19) rfl)
theorem wl_596 : Cond.selects RX0 yX0_ofSort yX0_ofSort ∈ wsL_law := lwm_wsL_law_r25 _ (List.mem_of_getElem? (i := 20) rfl)
theorem wl_597 : Cond.code yX0_ofSort cX0_ofSort 3 (some .int) ∈ wsL_law := lwm_wsL_law_r25 _ (List.mem_of_getElem? (i := 21) rfl)
theorem wl_598 : Cond.methodLink RL 63 yX8_all ∈ wsL_law := lwm_wsL_law_r25 _ (List.mem_of_getElem? (i := 22) rfl)
theorem wl_599 : Cond.instanceMethod yX8_all ∈ wsL_law := lwm_wsL_law_r25 _ (List.mem_of_getElem? (i := 23) rfl)
theorem wl_600 : Cond.selects RX8 yX8_all yX8_all ∈ wsL_law := lwm_wsL_law_r26 _ (List.mem_of_getElem? (i := 0) rfl)
theorem wl_601 : Cond.code yX8_all cX8_all 5 (some .int) ∈ wsL_law := lwm_wsL_law_r26 _ (List.mem_of_getElem? (i := 1) rfl)
theorem wl_602 : Cond.methodLink RL 64 yX7_spans ∈ wsL_law := lwm_wsL_law_r26 _ (List.mem_of_getElem? (i := 2) rfl)
theorem wl_603 : Cond.instanceMethod yX7_spans ∈ wsL_law := lwm_wsL_law_r26 _ (List.mem_of_getElem? (i := 3) rfl)
theorem wl_604 : Cond.selects RX7 yX7_spans yX7_spans ∈ wsL_law := lwm_wsL_law_r26 _ (List.mem_of_getElem? (i := 4) rfl)
theorem wl_605 : Cond.code yX7_spans cX7_spans 3 (some .int) ∈ wsL_law := lwm_wsL_law_r26 _ (List.mem_of_getElem? (i := 5) rfl)
theorem wl_606 : Cond.methodLink RX7 171 yX5_take ∈ wsL_law := lwm_wsL_law_r26 _ (List.mem_of_getElem? (i := 6) rfl)
theorem wl_607 : Cond.instanceMethod yX5_take ∈ wsL_law := lwm_wsL_law_r26 _ (List.mem_of_getElem? (i := 7) rfl)
theorem wl_608 : Cond.selects RX5 yX5_take yX5_take ∈ wsL_law := lwm_wsL_law_r26 _ (List.mem_of_getElem? (i := 8) rfl)
theorem wl_609 : Cond.code yX5_take cX5_take 7 none ∈ wsL_law := lwm_wsL_law_r26 _ (List.mem_of_getElem? (i := 9) rfl)
theorem wl_610 : Cond.methodLink RX5 38 yX5_total ∈ wsL_law := lwm_wsL_law_r26 _ (List.mem_of_getElem? (i := 10) rfl)
theorem wl_611 : Cond.instanceMethod yX5_total ∈ wsL_law := lwm_wsL_law_r26 _ (List.mem_of_getElem? (i := 11) rfl)
theorem wl_612 : Cond.selects RX5 yX5_total yX5_total ∈ wsL_law := lwm_wsL_law_r26 _ (List.mem_of_getElem? (i := 12) rfl)
theorem wl_613 : Cond.code yX5_total cX5_total 3 (some .int) ∈ wsL_law := lwm_wsL_law_r26 _ (List.mem_of_getElem? (i := 13) rfl)
theorem wl_614 : Cond.methodLink RX5 32 yX4_at ∈ wsL_law := lwm_wsL_law_r26 _ (List.mem_of_getElem? (i := 14) rfl)
theorem wl_615 : Cond.methodLink RX5 48 yX6_resultAt ∈ wsL_law := lwm_wsL_law_r26 _ (List.mem_of_getElem? (i := 15) rfl)
theorem wl_616 : Cond.methodLink RX5 54 yX4_addOne ∈ wsL_law := lwm_wsL_law_r26 _ (List.mem_of_getElem? (i := 16) rfl)
theorem wl_617 : Cond.methodLink RX7 173 yX5_total ∈ wsL_law := lwm_wsL_law_r26 _ (List.mem_of_getElem? (i := 17) rfl)
theorem wl_618 : Cond.methodLink RL 67 yX8_spans ∈ wsL_law := lwm_wsL_law_r26 _ (List.mem_of_getElem? (i := 18) rfl)
theorem wl_619 : Cond.instanceMethod yX8_spans ∈ wsL_law := lwm_wsL_law_r26 _ (List.mem_of_getElem? (i := 19) rfl)
theorem wl_620 : Cond.selects RX8 yX8_spans yX8_spans ∈ wsL_law := lwm_wsL_law_r26 _ (List.mem_of_getElem? (i := 20) rfl)
theorem wl_621 : Cond.code yX8_spans cX8_spans 3 (some .int) ∈ wsL_law := lwm_wsL_law_r26 _ (List.mem_of_getElem? (i := 21) rfl)
theorem wl_622 : Cond.fieldLink RX8 187 "HardBenchModel" "spanMany" "I" ∈ wsL_law := lwm_wsL_law_r26 _ (List.mem_of_getElem? (i := 22) rfl)
theorem wl_623 : Cond.methodLink RX8 190 yX8_findSpans ∈ wsL_law := lwm_wsL_law_r26 _ (List.mem_of_getElem? (i := 23) rfl)
theorem wl_624 : Cond.instanceMethod yX8_findSpans ∈ wsL_law := lwm_wsL_law_r27 _ (List.mem_of_getElem? (i := 0) rfl)
theorem wl_625 : Cond.selects RX8 yX8_findSpans yX8_findSpans ∈ wsL_law := lwm_wsL_law_r27 _ (List.mem_of_getElem? (i := 1) rfl)
theorem wl_626 : Cond.code yX8_findSpans cX8_findSpans 6 none ∈ wsL_law := lwm_wsL_law_r27 _ (List.mem_of_getElem? (i := 2) rfl)
theorem wl_627 : Cond.fieldLink RX8 184 "HardBenchModel" "spanRounding" "I" ∈ wsL_law := lwm_wsL_law_r27 _ (List.mem_of_getElem? (i := 3) rfl)
theorem wl_628 : Cond.methodLink RL 68 yX7_span ∈ wsL_law := lwm_wsL_law_r27 _ (List.mem_of_getElem? (i := 4) rfl)
theorem wl_629 : Cond.instanceMethod yX7_span ∈ wsL_law := lwm_wsL_law_r27 _ (List.mem_of_getElem? (i := 5) rfl)
theorem wl_630 : Cond.selects RX7 yX7_span yX7_span ∈ wsL_law := lwm_wsL_law_r27 _ (List.mem_of_getElem? (i := 6) rfl)
theorem wl_631 : Cond.code yX7_span cX7_span 6 (some .int) ∈ wsL_law := lwm_wsL_law_r27 _ (List.mem_of_getElem? (i := 7) rfl)
theorem wl_632 : Cond.methodLink RX7 176 yX1_greatestPlain ∈ wsL_law := lwm_wsL_law_r27 _ (List.mem_of_getElem? (i := 8) rfl)
theorem wl_633 : Cond.methodLink RX7 179 yX5_firstCode ∈ wsL_law := lwm_wsL_law_r27 _ (List.mem_of_getElem? (i := 9) rfl)
theorem wl_634 : Cond.instanceMethod yX5_firstCode ∈ wsL_law := lwm_wsL_law_r27 _ (List.mem_of_getElem? (i := 10) rfl)
theorem wl_635 : Cond.selects RX5 yX5_firstCode yX5_firstCode ∈ wsL_law := lwm_wsL_law_r27 _ (List.mem_of_getElem? (i := 11) rfl)
theorem wl_636 : Cond.code yX5_firstCode cX5_firstCode 11 (some .int) ∈ wsL_law := lwm_wsL_law_r27 _ (List.mem_of_getElem? (i := 12) rfl)
theorem wl_637 : Cond.methodLink RX5 57 Lib.Math.max.name ∈ wsL_law := lwm_wsL_law_r27 _ (List.mem_of_getElem? (i := 13) rfl)
theorem wl_638 : Cond.methodLink RL 72 yX8_span ∈ wsL_law := lwm_wsL_law_r27 _ (List.mem_of_getElem? (i := 14) rfl)
theorem wl_639 : Cond.instanceMethod yX8_span ∈ wsL_law := lwm_wsL_law_r27 _ (List.mem_of_getElem? (i := 15) rfl)
theorem wl_640 : Cond.selects RX8 yX8_span yX8_span ∈ wsL_law := lwm_wsL_law_r27 _ (List.mem_of_getElem? (i := 16) rfl)
theorem wl_641 : Cond.code yX8_span cX8_span 5 (some .int) ∈ wsL_law := lwm_wsL_law_r27 _ (List.mem_of_getElem? (i := 17) rfl)
theorem wl_642 : Cond.methodLink RL 73 yX7_table ∈ wsL_law := lwm_wsL_law_r27 _ (List.mem_of_getElem? (i := 18) rfl)
theorem wl_643 : Cond.instanceMethod yX7_table ∈ wsL_law := lwm_wsL_law_r27 _ (List.mem_of_getElem? (i := 19) rfl)
theorem wl_644 : Cond.selects RX7 yX7_table yX7_table ∈ wsL_law := lwm_wsL_law_r27 _ (List.mem_of_getElem? (i := 20) rfl)
theorem wl_645 : Cond.code yX7_table cX7_table 6 (some .int) ∈ wsL_law := lwm_wsL_law_r27 _ (List.mem_of_getElem? (i := 21) rfl)
theorem wl_646 : Cond.methodLink RX7 182 yX1_isPower ∈ wsL_law := lwm_wsL_law_r27 _ (List.mem_of_getElem? (i := 22) rfl)
theorem wl_647 : Cond.instanceMethod yX1_isPower ∈ wsL_law := lwm_wsL_law_r27 _ (List.mem_of_getElem? (i := 23) rfl)
theorem wl_648 : Cond.selects RX1 yX1_isPower yX1_isPower ∈ wsL_law := lwm_wsL_law_r28 _ (List.mem_of_getElem? (i := 0) rfl)
theorem wl_649 : Cond.code yX1_isPower cX1_isPower 2 (some .boolean) ∈ wsL_law := lwm_wsL_law_r28 _ (List.mem_of_getElem? (i := 1) rfl)
theorem wl_650 : Cond.methodLink RX7 185 yX2_readDue ∈ wsL_law := lwm_wsL_law_r28 _ (List.mem_of_getElem? (i := 2) rfl)
theorem wl_651 : Cond.instanceMethod yX2_readDue ∈ wsL_law := lwm_wsL_law_r28 _ (List.mem_of_getElem? (i := 3) rfl)
theorem wl_652 : Cond.selects RX2 yX2_readDue yX2_readDue ∈ wsL_law := lwm_wsL_law_r28 _ (List.mem_of_getElem? (i := 4) rfl)
theorem wl_653 : Cond.code yX2_readDue cX2_readDue 5 none ∈ wsL_law := lwm_wsL_law_r28 _ (List.mem_of_getElem? (i := 5) rfl)
theorem wl_654 : Cond.methodLink RX2 46 yX1_zs ∈ wsL_law := lwm_wsL_law_r28 _ (List.mem_of_getElem? (i := 6) rfl)
theorem wl_655 : Cond.methodLink RX2 68 yX1_codeOf ∈ wsL_law := lwm_wsL_law_r28 _ (List.mem_of_getElem? (i := 7) rfl)
theorem wl_656 : Cond.instanceMethod yX1_codeOf ∈ wsL_law := lwm_wsL_law_r28 _ (List.mem_of_getElem? (i := 8) rfl)
theorem wl_657 : Cond.selects RX1 yX1_codeOf yX1_codeOf ∈ wsL_law := lwm_wsL_law_r28 _ (List.mem_of_getElem? (i := 9) rfl)
theorem wl_658 : Cond.code yX1_codeOf cX1_codeOf 3 (some .int) ∈ wsL_law := lwm_wsL_law_r28 _ (List.mem_of_getElem? (i := 10) rfl)
theorem wl_659 : Cond.methodLink RX2 72 yX6_resultAt ∈ wsL_law := lwm_wsL_law_r28 _ (List.mem_of_getElem? (i := 11) rfl)
theorem wl_660 : Cond.methodLink RX2 78 yX4_put ∈ wsL_law := lwm_wsL_law_r28 _ (List.mem_of_getElem? (i := 12) rfl)
theorem wl_661 : Cond.methodLink RX7 189 yX2_cutParts ∈ wsL_law := lwm_wsL_law_r28 _ (List.mem_of_getElem? (i := 13) rfl)
theorem wl_662 : Cond.instanceMethod yX2_cutParts ∈ wsL_law := lwm_wsL_law_r28 _ (List.mem_of_getElem? (i := 14) rfl)
theorem wl_663 : Cond.selects RX2 yX2_cutParts yX2_cutParts ∈ wsL_law := lwm_wsL_law_r28 _ (List.mem_of_getElem? (i := 15) rfl)
theorem wl_664 : Cond.code yX2_cutParts cX2_cutParts 5 none ∈ wsL_law := lwm_wsL_law_r28 _ (List.mem_of_getElem? (i := 16) rfl)
theorem wl_665 : Cond.fieldLink RX2 61 "HardBench$Lines" "s" "I" ∈ wsL_law := lwm_wsL_law_r28 _ (List.mem_of_getElem? (i := 17) rfl)
theorem wl_666 : Cond.methodLink RX2 82 yX2_widen ∈ wsL_law := lwm_wsL_law_r28 _ (List.mem_of_getElem? (i := 18) rfl)
theorem wl_667 : Cond.instanceMethod yX2_widen ∈ wsL_law := lwm_wsL_law_r28 _ (List.mem_of_getElem? (i := 19) rfl)
theorem wl_668 : Cond.selects RX2 yX2_widen yX2_widen ∈ wsL_law := lwm_wsL_law_r28 _ (List.mem_of_getElem? (i := 20) rfl)
theorem wl_669 : Cond.code yX2_widen cX2_widen 2 none ∈ wsL_law := lwm_wsL_law_r28 _ (List.mem_of_getElem? (i := 21) rfl)
theorem wl_670 : Cond.constantLong RX2 94 (-1099511627776) ∈ wsL_law := lwm_wsL_law_r28 _ (List.mem_of_getElem? (i := 22) rfl)
theorem wl_671 : Cond.fieldLink RX2 96 "HardBench$Lines" "least" "J" ∈ wsL_law := lwm_wsL_law_r28 _ (List.mem_of_getElem? (i := 23) rfl)
theorem wl_672 : Cond.constantLong RX2 100 (1099511627776) ∈ wsL_law := lwm_wsL_law_r29 _ (List.mem_of_getElem? (i := 0) rfl)
theorem wl_673 : Cond.fieldLink RX2 102 "HardBench$Lines" "greatest" "J" ∈ wsL_law := lwm_wsL_law_r29 _ (List.mem_of_getElem? (i := 1) rfl)
theorem wl_674 : Cond.methodLink RX2 86 yX2_narrow ∈ wsL_law := lwm_wsL_law_r29 _ (List.mem_of_getElem? (i := 2) rfl)
theorem wl_675 : Cond.instanceMethod yX2_narrow ∈ wsL_law := lwm_wsL_law_r29 _ (List.mem_of_getElem? (i := 3) rfl)
theorem wl_676 : Cond.selects RX2 yX2_narrow yX2_narrow ∈ wsL_law := lwm_wsL_law_r29 _ (List.mem_of_getElem? (i := 4) rfl)
theorem wl_677 : Cond.code yX2_narrow cX2_narrow 12 (some .boolean) ∈ wsL_law := lwm_wsL_law_r29 _ (List.mem_of_getElem? (i := 5) rfl)
theorem wl_678 : Cond.methodLink RX2 109 Lib.MathLoose.max_long.x ∈ wsL_law := lwm_wsL_law_r29 _ (List.mem_of_getElem? (i := 6) rfl)
theorem wl_679 : Cond.static Lib.MathLoose.max_long.x ∈ wsL_law := lwm_wsL_law_r29 _ (List.mem_of_getElem? (i := 7) rfl)
theorem wl_680 : Cond.code Lib.MathLoose.max_long.x Lib.MathLoose.max_long.code 4 (some .long) ∈ wsL_law := lwm_wsL_law_r29 _ (List.mem_of_getElem? (i := 8) rfl)
theorem wl_681 : Cond.methodLink RX2 114 Lib.MathLoose.min_long.x ∈ wsL_law := lwm_wsL_law_r29 _ (List.mem_of_getElem? (i := 9) rfl)
theorem wl_682 : Cond.static Lib.MathLoose.min_long.x ∈ wsL_law := lwm_wsL_law_r29 _ (List.mem_of_getElem? (i := 10) rfl)
theorem wl_683 : Cond.code Lib.MathLoose.min_long.x Lib.MathLoose.min_long.code 4 (some .long) ∈ wsL_law := lwm_wsL_law_r29 _ (List.mem_of_getElem? (i := 11) rfl)
theorem wl_684 : Cond.methodLink RX2 36 yX4_at ∈ wsL_law := lwm_wsL_law_r29 _ (List.mem_of_getElem? (i := 12) rfl)
theorem wl_685 : Cond.methodLink RX2 105 yX2_floorBy ∈ wsL_law := lwm_wsL_law_r29 _ (List.mem_of_getElem? (i := 13) rfl)
theorem wl_686 : Cond.static yX2_floorBy ∈ wsL_law := lwm_wsL_law_r29 _ (List.mem_of_getElem? (i := 14) rfl)
theorem wl_687 : Cond.code yX2_floorBy cX2_floorBy 4 (some .long) ∈ wsL_law := lwm_wsL_law_r29 _ (List.mem_of_getElem? (i := 15) rfl)
theorem wl_688 : Cond.methodLink RX2 117 yJ9_floorDiv_f86c9 ∈ wsL_law := lwm_wsL_law_r29 _ (List.mem_of_getElem? (i := 16) rfl)
theorem wl_689 : Cond.static yJ9_floorDiv_f86c9 ∈ wsL_law := lwm_wsL_law_r29 _ (List.mem_of_getElem? (i := 17) rfl)
theorem wl_690 : Cond.code yJ9_floorDiv_f86c9 cJ9_floorDiv_f86c9 6 (some .long) ∈ wsL_law := lwm_wsL_law_r29 _ (List.mem_of_getElem? (i := 18) rfl)
theorem wl_691 : Cond.methodLink RX2 90 yX2_closePart ∈ wsL_law := lwm_wsL_law_r29 _ (List.mem_of_getElem? (i := 19) rfl)
theorem wl_692 : Cond.instanceMethod yX2_closePart ∈ wsL_law := lwm_wsL_law_r29 _ (List.mem_of_getElem? (i := 20) rfl)
theorem wl_693 : Cond.selects RX2 yX2_closePart yX2_closePart ∈ wsL_law := lwm_wsL_law_r29 _ (List.mem_of_getElem? (i := 21) rfl)
theorem wl_694 : Cond.code yX2_closePart cX2_closePart 8 none ∈ wsL_law := lwm_wsL_law_r29 _ (List.mem_of_getElem? (i := 22) rfl)
theorem wl_695 : Cond.methodLink RX2 120 yX2_leastStart ∈ wsL_law := lwm_wsL_law_r29 _ (List.mem_of_getElem? (i := 23) rfl)
theorem wl_696 : Cond.instanceMethod yX2_leastStart ∈ wsL_law := lwm_wsL_law_r30 _ (List.mem_of_getElem? (i := 0) rfl)
theorem wl_697 : Cond.selects RX2 yX2_leastStart yX2_leastStart ∈ wsL_law := lwm_wsL_law_r30 _ (List.mem_of_getElem? (i := 1) rfl)
theorem wl_698 : Cond.code yX2_leastStart cX2_leastStart 4 (some .long) ∈ wsL_law := lwm_wsL_law_r30 _ (List.mem_of_getElem? (i := 2) rfl)
theorem wl_699 : Cond.methodLink RX7 192 yX2_parts ∈ wsL_law := lwm_wsL_law_r30 _ (List.mem_of_getElem? (i := 3) rfl)
theorem wl_700 : Cond.instanceMethod yX2_parts ∈ wsL_law := lwm_wsL_law_r30 _ (List.mem_of_getElem? (i := 4) rfl)
theorem wl_701 : Cond.selects RX2 yX2_parts yX2_parts ∈ wsL_law := lwm_wsL_law_r30 _ (List.mem_of_getElem? (i := 5) rfl)
theorem wl_702 : Cond.code yX2_parts cX2_parts 1 (some .int) ∈ wsL_law := lwm_wsL_law_r30 _ (List.mem_of_getElem? (i := 6) rfl)
theorem wl_703 : Cond.methodLink RL 77 yX8_table ∈ wsL_law := lwm_wsL_law_r30 _ (List.mem_of_getElem? (i := 7) rfl)
theorem wl_704 : Cond.instanceMethod yX8_table ∈ wsL_law := lwm_wsL_law_r30 _ (List.mem_of_getElem? (i := 8) rfl)
theorem wl_705 : Cond.selects RX8 yX8_table yX8_table ∈ wsL_law := lwm_wsL_law_r30 _ (List.mem_of_getElem? (i := 9) rfl)
theorem wl_706 : Cond.code yX8_table cX8_table 8 (some .int) ∈ wsL_law := lwm_wsL_law_r30 _ (List.mem_of_getElem? (i := 10) rfl)
theorem wl_707 : Cond.fieldLink RX8 196 "HardBenchModel" "shift" "I" ∈ wsL_law := lwm_wsL_law_r30 _ (List.mem_of_getElem? (i := 11) rfl)
theorem wl_708 : Cond.methodLink RX8 193 yX8_isPower ∈ wsL_law := lwm_wsL_law_r30 _ (List.mem_of_getElem? (i := 12) rfl)
theorem wl_709 : Cond.instanceMethod yX8_isPower ∈ wsL_law := lwm_wsL_law_r30 _ (List.mem_of_getElem? (i := 13) rfl)
theorem wl_710 : Cond.selects RX8 yX8_isPower yX8_isPower ∈ wsL_law := lwm_wsL_law_r30 _ (List.mem_of_getElem? (i := 14) rfl)
theorem wl_711 : Cond.code yX8_isPower cX8_isPower 2 (some .boolean) ∈ wsL_law := lwm_wsL_law_r30 _ (List.mem_of_getElem? (i := 15) rfl)
theorem wl_712 : Cond.methodLink RX8 199 yX8_flat ∈ wsL_law := lwm_wsL_law_r30 _ (List.mem_of_getElem? (i := 16) rfl)
theorem wl_713 : Cond.instanceMethod yX8_flat ∈ wsL_law := lwm_wsL_law_r30 _ (List.mem_of_getElem? (i := 17) rfl)
theorem wl_714 : Cond.selects RX8 yX8_flat yX8_flat ∈ wsL_law := lwm_wsL_law_r30 _ (List.mem_of_getElem? (i := 18) rfl)
theorem wl_715 : Cond.code yX8_flat cX8_flat 4 (some .int) ∈ wsL_law := lwm_wsL_law_r30 _ (List.mem_of_getElem? (i := 19) rfl)
theorem wl_716 : Cond.methodLink RX8 205 yX8_lays ∈ wsL_law := lwm_wsL_law_r30 _ (List.mem_of_getElem? (i := 20) rfl)
theorem wl_717 : Cond.instanceMethod yX8_lays ∈ wsL_law := lwm_wsL_law_r30 _ (List.mem_of_getElem? (i := 21) rfl)
theorem wl_718 : Cond.selects RX8 yX8_lays yX8_lays ∈ wsL_law := lwm_wsL_law_r30 _ (List.mem_of_getElem? (i := 22) rfl)
theorem wl_719 : Cond.code yX8_lays cX8_lays 7 none ∈ wsL_law := lwm_wsL_law_r30 _ (List.mem_of_getElem? (i := 23) rfl)
theorem wl_720 : Cond.methodLink RX8 202 yX8_line ∈ wsL_law := lwm_wsL_law_r31 _ (List.mem_of_getElem? (i := 0) rfl)
theorem wl_721 : Cond.instanceMethod yX8_line ∈ wsL_law := lwm_wsL_law_r31 _ (List.mem_of_getElem? (i := 1) rfl)
theorem wl_722 : Cond.selects RX8 yX8_line yX8_line ∈ wsL_law := lwm_wsL_law_r31 _ (List.mem_of_getElem? (i := 2) rfl)
theorem wl_723 : Cond.code yX8_line cX8_line 18 (some .int) ∈ wsL_law := lwm_wsL_law_r31 _ (List.mem_of_getElem? (i := 3) rfl)
theorem wl_724 : Cond.constantLong RX8 209 (-1000000000000) ∈ wsL_law := lwm_wsL_law_r31 _ (List.mem_of_getElem? (i := 4) rfl)
theorem wl_725 : Cond.constantLong RX8 211 (1000000000000) ∈ wsL_law := lwm_wsL_law_r31 _ (List.mem_of_getElem? (i := 5) rfl)
theorem wl_726 : Cond.methodLink RX8 217 Lib.MathLoose.min_long.x ∈ wsL_law := lwm_wsL_law_r31 _ (List.mem_of_getElem? (i := 6) rfl)
theorem wl_727 : Cond.methodLink RX8 220 Lib.MathLoose.max_long.x ∈ wsL_law := lwm_wsL_law_r31 _ (List.mem_of_getElem? (i := 7) rfl)
theorem wl_728 : Cond.methodLink RX8 213 yJ9_floorDiv_f86c9 ∈ wsL_law := lwm_wsL_law_r31 _ (List.mem_of_getElem? (i := 8) rfl)
theorem wl_729 : Cond.methodLink RL 78 yX7_part ∈ wsL_law := lwm_wsL_law_r31 _ (List.mem_of_getElem? (i := 9) rfl)
theorem wl_730 : Cond.instanceMethod yX7_part ∈ wsL_law := lwm_wsL_law_r31 _ (List.mem_of_getElem? (i := 10) rfl)
theorem wl_731 : Cond.selects RX7 yX7_part yX7_part ∈ wsL_law := lwm_wsL_law_r31 _ (List.mem_of_getElem? (i := 11) rfl)
theorem wl_732 : Cond.code yX7_part cX7_part 3 (some .int) ∈ wsL_law := lwm_wsL_law_r31 _ (List.mem_of_getElem? (i := 12) rfl)
theorem wl_733 : Cond.methodLink RX7 195 yX2_firstZ ∈ wsL_law := lwm_wsL_law_r31 _ (List.mem_of_getElem? (i := 13) rfl)
theorem wl_734 : Cond.instanceMethod yX2_firstZ ∈ wsL_law := lwm_wsL_law_r31 _ (List.mem_of_getElem? (i := 14) rfl)
theorem wl_735 : Cond.selects RX2 yX2_firstZ yX2_firstZ ∈ wsL_law := lwm_wsL_law_r31 _ (List.mem_of_getElem? (i := 15) rfl)
theorem wl_736 : Cond.code yX2_firstZ cX2_firstZ 2 (some .int) ∈ wsL_law := lwm_wsL_law_r31 _ (List.mem_of_getElem? (i := 16) rfl)
theorem wl_737 : Cond.methodLink RX7 198 yX2_lastZ ∈ wsL_law := lwm_wsL_law_r31 _ (List.mem_of_getElem? (i := 17) rfl)
theorem wl_738 : Cond.instanceMethod yX2_lastZ ∈ wsL_law := lwm_wsL_law_r31 _ (List.mem_of_getElem? (i := 18) rfl)
theorem wl_739 : Cond.selects RX2 yX2_lastZ yX2_lastZ ∈ wsL_law := lwm_wsL_law_r31 _ (List.mem_of_getElem? (i := 19) rfl)
theorem wl_740 : Cond.code yX2_lastZ cX2_lastZ 2 (some .int) ∈ wsL_law := lwm_wsL_law_r31 _ (List.mem_of_getElem? (i := 20) rfl)
theorem wl_741 : Cond.methodLink RX2 42 yX2_firstZ ∈ wsL_law := lwm_wsL_law_r31 _ (List.mem_of_getElem? (i := 21) rfl)
theorem wl_742 : Cond.methodLink RX7 201 yX2_lineStart ∈ wsL_law := lwm_wsL_law_r31 _ (List.mem_of_getElem? (i := 22) rfl)
theorem wl_743 : Cond.instanceMethod yX2_lineStart ∈ wsL_law := lwm_wsL_law_r31 _ (List.mem_of_getElem? (i := 23) rfl)
theorem wl_744 : Cond.selects RX2 yX2_lineStart yX2_lineStart ∈ wsL_law := lwm_wsL_law_r32 _ (List.mem_of_getElem? (i := 0) rfl)
theorem wl_745 : Cond.code yX2_lineStart cX2_lineStart 2 (some .int) ∈ wsL_law := lwm_wsL_law_r32 _ (List.mem_of_getElem? (i := 1) rfl)
theorem wl_746 : Cond.methodLink RX7 204 yX2_lineSlope ∈ wsL_law := lwm_wsL_law_r32 _ (List.mem_of_getElem? (i := 2) rfl)
theorem wl_747 : Cond.instanceMethod yX2_lineSlope ∈ wsL_law := lwm_wsL_law_r32 _ (List.mem_of_getElem? (i := 3) rfl)
theorem wl_748 : Cond.selects RX2 yX2_lineSlope yX2_lineSlope ∈ wsL_law := lwm_wsL_law_r32 _ (List.mem_of_getElem? (i := 4) rfl)
theorem wl_749 : Cond.code yX2_lineSlope cX2_lineSlope 2 (some .int) ∈ wsL_law := lwm_wsL_law_r32 _ (List.mem_of_getElem? (i := 5) rfl)
theorem wl_750 : Cond.methodLink RL 81 yX8_part ∈ wsL_law := lwm_wsL_law_r32 _ (List.mem_of_getElem? (i := 6) rfl)
theorem wl_751 : Cond.instanceMethod yX8_part ∈ wsL_law := lwm_wsL_law_r32 _ (List.mem_of_getElem? (i := 7) rfl)
theorem wl_752 : Cond.selects RX8 yX8_part yX8_part ∈ wsL_law := lwm_wsL_law_r32 _ (List.mem_of_getElem? (i := 8) rfl)
theorem wl_753 : Cond.code yX8_part cX8_part 3 (some .int) ∈ wsL_law := lwm_wsL_law_r32 _ (List.mem_of_getElem? (i := 9) rfl)
theorem wl_754 : Cond.methodLink RL 82 yX7_look ∈ wsL_law := lwm_wsL_law_r32 _ (List.mem_of_getElem? (i := 10) rfl)
theorem wl_755 : Cond.instanceMethod yX7_look ∈ wsL_law := lwm_wsL_law_r32 _ (List.mem_of_getElem? (i := 11) rfl)
theorem wl_756 : Cond.selects RX7 yX7_look yX7_look ∈ wsL_law := lwm_wsL_law_r32 _ (List.mem_of_getElem? (i := 12) rfl)
theorem wl_757 : Cond.code yX7_look cX7_look 2 (some .int) ∈ wsL_law := lwm_wsL_law_r32 _ (List.mem_of_getElem? (i := 13) rfl)
theorem wl_758 : Cond.methodLink RX7 207 yX1_isZ ∈ wsL_law := lwm_wsL_law_r32 _ (List.mem_of_getElem? (i := 14) rfl)
theorem wl_759 : Cond.instanceMethod yX1_isZ ∈ wsL_law := lwm_wsL_law_r32 _ (List.mem_of_getElem? (i := 15) rfl)
theorem wl_760 : Cond.selects RX1 yX1_isZ yX1_isZ ∈ wsL_law := lwm_wsL_law_r32 _ (List.mem_of_getElem? (i := 16) rfl)
theorem wl_761 : Cond.code yX1_isZ cX1_isZ 2 (some .boolean) ∈ wsL_law := lwm_wsL_law_r32 _ (List.mem_of_getElem? (i := 17) rfl)
theorem wl_762 : Cond.methodLink RX7 210 yX2_toldFor ∈ wsL_law := lwm_wsL_law_r32 _ (List.mem_of_getElem? (i := 18) rfl)
theorem wl_763 : Cond.instanceMethod yX2_toldFor ∈ wsL_law := lwm_wsL_law_r32 _ (List.mem_of_getElem? (i := 19) rfl)
theorem wl_764 : Cond.selects RX2 yX2_toldFor yX2_toldFor ∈ wsL_law := lwm_wsL_law_r32 _ (List.mem_of_getElem? (i := 20) rfl)
theorem wl_765 : Cond.code yX2_toldFor cX2_toldFor 3 (some .int) ∈ wsL_law := lwm_wsL_law_r32 _ (List.mem_of_getElem? (i := 21) rfl)
theorem wl_766 : Cond.methodLink RX2 52 yX2_lastZ ∈ wsL_law := lwm_wsL_law_r32 _ (List.mem_of_getElem? (i := 22) rfl)
theorem wl_767 : Cond.methodLink RX2 55 yX2_lineStart ∈ wsL_law := lwm_wsL_law_r32 _ (List.mem_of_getElem? (i := 23) rfl)
theorem wl_768 : Cond.methodLink RX2 58 yX2_lineSlope ∈ wsL_law := lwm_wsL_law_r33 _ (List.mem_of_getElem? (i := 0) rfl)
theorem wl_769 : Cond.methodLink RX2 64 yX2_onLine ∈ wsL_law := lwm_wsL_law_r33 _ (List.mem_of_getElem? (i := 1) rfl)
theorem wl_770 : Cond.static yX2_onLine ∈ wsL_law := lwm_wsL_law_r33 _ (List.mem_of_getElem? (i := 2) rfl)
theorem wl_771 : Cond.code yX2_onLine cX2_onLine 7 (some .long) ∈ wsL_law := lwm_wsL_law_r33 _ (List.mem_of_getElem? (i := 3) rfl)
theorem wl_772 : Cond.methodLink RL 85 yX8_look ∈ wsL_law := lwm_wsL_law_r33 _ (List.mem_of_getElem? (i := 4) rfl)
theorem wl_773 : Cond.instanceMethod yX8_look ∈ wsL_law := lwm_wsL_law_r33 _ (List.mem_of_getElem? (i := 5) rfl)
theorem wl_774 : Cond.selects RX8 yX8_look yX8_look ∈ wsL_law := lwm_wsL_law_r33 _ (List.mem_of_getElem? (i := 6) rfl)
theorem wl_775 : Cond.code yX8_look cX8_look 3 (some .int) ∈ wsL_law := lwm_wsL_law_r33 _ (List.mem_of_getElem? (i := 7) rfl)
theorem wl_776 : Cond.methodLink RL 86 yX7_fits ∈ wsL_law := lwm_wsL_law_r33 _ (List.mem_of_getElem? (i := 8) rfl)
theorem wl_777 : Cond.instanceMethod yX7_fits ∈ wsL_law := lwm_wsL_law_r33 _ (List.mem_of_getElem? (i := 9) rfl)
theorem wl_778 : Cond.selects RX7 yX7_fits yX7_fits ∈ wsL_law := lwm_wsL_law_r33 _ (List.mem_of_getElem? (i := 10) rfl)
theorem wl_779 : Cond.code yX7_fits cX7_fits 12 (some .int) ∈ wsL_law := lwm_wsL_law_r33 _ (List.mem_of_getElem? (i := 11) rfl)
theorem wl_780 : Cond.constant RX7 213 (-1000000000) ∈ wsL_law := lwm_wsL_law_r33 _ (List.mem_of_getElem? (i := 12) rfl)
theorem wl_781 : Cond.methodLink RX7 215 yX1_codeOf ∈ wsL_law := lwm_wsL_law_r33 _ (List.mem_of_getElem? (i := 13) rfl)
theorem wl_782 : Cond.methodLink RX7 218 yX2_onLine ∈ wsL_law := lwm_wsL_law_r33 _ (List.mem_of_getElem? (i := 14) rfl)
theorem wl_783 : Cond.methodLink RL 90 yX8_fits ∈ wsL_law := lwm_wsL_law_r33 _ (List.mem_of_getElem? (i := 15) rfl)
theorem wl_784 : Cond.instanceMethod yX8_fits ∈ wsL_law := lwm_wsL_law_r33 _ (List.mem_of_getElem? (i := 16) rfl)
theorem wl_785 : Cond.selects RX8 yX8_fits yX8_fits ∈ wsL_law := lwm_wsL_law_r33 _ (List.mem_of_getElem? (i := 17) rfl)
theorem wl_786 : Cond.code yX8_fits cX8_fits 10 (some .int) ∈ wsL_law := lwm_wsL_law_r33 _ (List.mem_of_getElem? (i := 18) rfl)
theorem wl_787 : Cond.constant RX8 222 (-1000000000) ∈ wsL_law := lwm_wsL_law_r33 _ (List.mem_of_getElem? (i := 19) rfl)
theorem wl_788 : Cond.methodLink RL 91 yX7_status ∈ wsL_law := lwm_wsL_law_r33 _ (List.mem_of_getElem? (i := 20) rfl)
theorem wl_789 : Cond.instanceMethod yX7_status ∈ wsL_law := lwm_wsL_law_r33 _ (List.mem_of_getElem? (i := 21) rfl)
theorem wl_790 : Cond.selects RX7 yX7_status yX7_status ∈ wsL_law := lwm_wsL_law_r33 _ (List.mem_of_getElem? (i := 22) rfl)
theorem wl_791 : Cond.code yX7_status cX7_status 2 (some .int) ∈ wsL_law := lwm_wsL_law_r33 _ (List.mem_of_getElem? (i := 23) rfl)
theorem wl_792 : Cond.methodLink RX7 222 yX4_at ∈ wsL_law := lwm_wsL_law_r34 _ (List.mem_of_getElem? (i := 0) rfl)
theorem wl_793 : Cond.methodLink RL 94 yX8_status ∈ wsL_law := lwm_wsL_law_r34 _ (List.mem_of_getElem? (i := 1) rfl)
theorem wl_794 : Cond.instanceMethod yX8_status ∈ wsL_law := lwm_wsL_law_r34 _ (List.mem_of_getElem? (i := 2) rfl)
theorem wl_795 : Cond.selects RX8 yX8_status yX8_status ∈ wsL_law := lwm_wsL_law_r34 _ (List.mem_of_getElem? (i := 3) rfl)
theorem wl_796 : Cond.code yX8_status cX8_status 2 (some .int) ∈ wsL_law := lwm_wsL_law_r34 _ (List.mem_of_getElem? (i := 4) rfl)
theorem inlX0 : ∀ w ∈ wsX00, w ∈ wsL_law := fun _ h => List.mem_append_left _ (List.mem_append_left _ (List.mem_append_left _ (List.mem_append_right _ h)))
theorem inX0 : ∀ w ∈ wsX00, w ∈ lw_tbl := fun w h => wsL_law_in w (inlX0 w h)
theorem inlX1 : ∀ w ∈ wsX10, w ∈ wsL_law := fun _ h => List.mem_append_left _ (List.mem_append_left _ (List.mem_append_left _ (List.mem_append_left _ (List.mem_append_left _ (List.mem_append_left _ (List.mem_append_right _ h))))))
theorem inX1 : ∀ w ∈ wsX10, w ∈ lw_tbl := fun w h => wsL_law_in w (inlX1 w h)
theorem inlX2 : ∀ w ∈ wsX20, w ∈ wsL_law := fun _ h => List.mem_append_left _ (List.mem_append_right _ h)
theorem inX2 : ∀ w ∈ wsX20, w ∈ lw_tbl := fun w h => wsL_law_in w (inlX2 w h)
theorem inlX3 : ∀ w ∈ wsX30, w ∈ wsL_law := fun _ h => List.mem_append_left _ (List.mem_append_left _ (List.mem_append_left _ (List.mem_append_left _ (List.mem_append_left _ (List.mem_append_right _ h)))))
theorem inX3 : ∀ w ∈ wsX30, w ∈ lw_tbl := fun w h => wsL_law_in w (inlX3 w h)
theorem inX4 : ∀ w ∈ wsX40, w ∈ lw_tbl := by decide +kernel
theorem inlX5 : ∀ w ∈ wsX50, w ∈ wsL_law := fun _ h => List.mem_append_left _ (List.mem_append_left _ (List.mem_append_right _ h))
theorem inX5 : ∀ w ∈ wsX50, w ∈ lw_tbl := fun w h => wsL_law_in w (inlX5 w h)
theorem inlX6 : ∀ w ∈ wsX60, w ∈ wsL_law := fun _ h => List.mem_append_left _ (List.mem_append_left _ (List.mem_append_left _ (List.mem_append_left _ (List.mem_append_right _ h))))
theorem inX6 : ∀ w ∈ wsX60, w ∈ lw_tbl := fun w h => wsL_law_in w (inlX6 w h)
theorem inlX7 : ∀ w ∈ wsX70, w ∈ wsL_law := fun _ h => List.mem_append_left _ (List.mem_append_left _ (List.mem_append_left _ (List.mem_append_left _ (List.mem_append_left _ (List.mem_append_left _ (List.mem_append_left _ (List.mem_append_left _ (List.mem_append_right _ h))))))))
theorem inX7 : ∀ w ∈ wsX70, w ∈ lw_tbl := fun w h => wsL_law_in w (inlX7 w h)
theorem inlX8 : ∀ w ∈ wsX80, w ∈ wsL_law := fun _ h => List.mem_append_left _ (List.mem_append_left _ (List.mem_append_left _ (List.mem_append_left _ (List.mem_append_left _ (List.mem_append_left _ (List.mem_append_left _ (List.mem_append_right _ h)))))))
theorem inX8 : ∀ w ∈ wsX80, w ∈ lw_tbl := fun w h => wsL_law_in w (inlX8 w h)
theorem inJ6 : ∀ w ∈ wsJ60, w ∈ lw_tbl := by decide +kernel
theorem inJ13 : ∀ w ∈ wsJ130, w ∈ lw_tbl := by decide +kernel
theorem inJ9 : ∀ w ∈ wsJ90, w ∈ lw_tbl := by decide +kernel
theorem inJ7 : ∀ w ∈ wsJ70, w ∈ lw_tbl := by decide +kernel
