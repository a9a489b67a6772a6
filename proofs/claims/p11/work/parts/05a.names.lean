def RX0 : String := "DescribeText$1"
def TX0 : u_T := fun k => match k with
  | _ => ("", "", "", false)
def tyX0 : Nat → FieldType := fun k => match k with
  | _ => .int
theorem nmX0 : ∀ a, a < 0 → ∀ b, b < 0 → a ≠ b → (TX0 a).2.1 ≠ (TX0 b).2.1 := by decide +kernel
theorem tyX0_ok : ∀ k, k < 0 → parseFieldDescriptor (TX0 k).2.2.1 = some (tyX0 k) := by decide +kernel
def RX1 : String := "DescribeText$Coding"
def TX1 : u_T := fun k => match k with
  | 0 => ("DescribeText$Coding", "number", "I", true)
  | 1 => ("DescribeText$Coding", "at", "I", true)
  | 2 => ("DescribeText$Coding", "name", "J", true)
  | 3 => ("DescribeText$Coding", "rows", "Ljava/util/ArrayList;", true)
  | 4 => ("DescribeText$Coding", "width", "I", false)
  | 5 => ("DescribeText$Coding", "signed", "Z", false)
  | 6 => ("DescribeText$Coding", "scaled", "Z", false)
  | 7 => ("DescribeText$Coding", "times", "J", false)
  | 8 => ("DescribeText$Coding", "over", "J", false)
  | _ => ("DescribeText$Coding", "plus", "J", false)
def tyX1 : Nat → FieldType := fun k => match k with
  | 0 => .int
  | 1 => .int
  | 2 => .long
  | 3 => .object "java/util/ArrayList"
  | 4 => .int
  | 5 => .boolean
  | 6 => .boolean
  | 7 => .long
  | 8 => .long
  | _ => .long
theorem nmX1 : ∀ a, a < 10 → ∀ b, b < 10 → a ≠ b → (TX1 a).2.1 ≠ (TX1 b).2.1 := by decide +kernel
theorem tyX1_ok : ∀ k, k < 10 → parseFieldDescriptor (TX1 k).2.2.1 = some (tyX1 k) := by decide +kernel
abbrev cX1_init : ByteArray := prog_3_method_1_code
def yX1_init : MethodName := ⟨RX1, "<init>", "(IIJ)V"⟩
abbrev cX1_rawAt : ByteArray := prog_3_method_2_code
def yX1_rawAt : MethodName := ⟨RX1, "rawAt", "(LDescribeText$Octets;I)J"⟩
abbrev cX1_highest : ByteArray := prog_3_method_3_code
def yX1_highest : MethodName := ⟨RX1, "highest", "()J"⟩
abbrev cX1_lowest : ByteArray := prog_3_method_4_code
def yX1_lowest : MethodName := ⟨RX1, "lowest", "()J"⟩
abbrev cX1_whole : ByteArray := prog_3_method_5_code
def yX1_whole : MethodName := ⟨RX1, "whole", "(J)J"⟩
abbrev cX1_above : ByteArray := prog_3_method_6_code
def yX1_above : MethodName := ⟨RX1, "above", "(J)J"⟩
abbrev cX1_below : ByteArray := prog_3_method_7_code
def yX1_below : MethodName := ⟨RX1, "below", "(J)J"⟩
abbrev cX1_floor : ByteArray := prog_3_method_8_code
def yX1_floor : MethodName := ⟨RX1, "floor", "(J)J"⟩
abbrev cX1_commonDivisor : ByteArray := prog_3_method_9_code
def yX1_commonDivisor : MethodName := ⟨RX1, "commonDivisor", "(JJ)J"⟩
abbrev cX1_rawFor : ByteArray := prog_3_method_10_code
def yX1_rawFor : MethodName := ⟨RX1, "rawFor", "(J)J"⟩
abbrev cX1_rowName : ByteArray := prog_3_method_11_code
def yX1_rowName : MethodName := ⟨RX1, "rowName", "(J)J"⟩
abbrev cX1_isLike : ByteArray := prog_3_method_12_code
def yX1_isLike : MethodName := ⟨RX1, "isLike", "(LDescribeText$Coding;)Z"⟩
def RX2 : String := "DescribeText$Edition"
def TX2 : u_T := fun k => match k with
  | 0 => ("DescribeText$Edition", "codings", "Ljava/util/ArrayList;", true)
  | 1 => ("DescribeText$Edition", "layers", "Ljava/util/ArrayList;", true)
  | 2 => ("DescribeText$Edition", "services", "Ljava/util/ArrayList;", true)
  | 3 => ("DescribeText$Edition", "codes", "Ljava/util/ArrayList;", true)
  | 4 => ("DescribeText$Edition", "variants", "Ljava/util/ArrayList;", true)
  | 5 => ("DescribeText$Edition", "jobs", "Ljava/util/ArrayList;", true)
  | 6 => ("DescribeText$Edition", "names", "[J", false)
  | 7 => ("DescribeText$Edition", "nameCount", "I", false)
  | 8 => ("DescribeText$Edition", "inUse", "LDescribeText$Layer;", false)
  | 9 => ("DescribeText$Edition", "wrongAt", "I", false)
  | _ => ("DescribeText$Edition", "ringStart", "LDescribeText$Layer;", false)
def tyX2 : Nat → FieldType := fun k => match k with
  | 0 => .object "java/util/ArrayList"
  | 1 => .object "java/util/ArrayList"
  | 2 => .object "java/util/ArrayList"
  | 3 => .object "java/util/ArrayList"
  | 4 => .object "java/util/ArrayList"
  | 5 => .object "java/util/ArrayList"
  | 6 => .array .long
  | 7 => .int
  | 8 => .object "DescribeText$Layer"
  | 9 => .int
  | _ => .object "DescribeText$Layer"
theorem nmX2 : ∀ a, a < 11 → ∀ b, b < 11 → a ≠ b → (TX2 a).2.1 ≠ (TX2 b).2.1 := by decide +kernel
theorem tyX2_ok : ∀ k, k < 11 → parseFieldDescriptor (TX2 k).2.2.1 = some (tyX2 k) := by decide +kernel
abbrev cX2_init : ByteArray := prog_4_method_1_code
def yX2_init : MethodName := ⟨RX2, "<init>", "()V"⟩
abbrev cX2_note : ByteArray := prog_4_method_2_code
def yX2_note : MethodName := ⟨RX2, "note", "(J)V"⟩
abbrev cX2_numberOf : ByteArray := prog_4_method_3_code
def yX2_numberOf : MethodName := ⟨RX2, "numberOf", "(J)I"⟩
abbrev cX2_findMeanings : ByteArray := prog_4_method_4_code
def yX2_findMeanings : MethodName := ⟨RX2, "findMeanings", "()V"⟩
abbrev cX2_findLayers : ByteArray := prog_4_method_5_code
def yX2_findLayers : MethodName := ⟨RX2, "findLayers", "()V"⟩
abbrev cX2_findParameters : ByteArray := prog_4_method_6_code
def yX2_findParameters : MethodName := ⟨RX2, "findParameters", "(LDescribeText$Service;)V"⟩
abbrev cX2_findVariants : ByteArray := prog_4_method_7_code
def yX2_findVariants : MethodName := ⟨RX2, "findVariants", "()V"⟩
abbrev cX2_findGets : ByteArray := prog_4_method_8_code
def yX2_findGets : MethodName := ⟨RX2, "findGets", "(LDescribeText$Job;)V"⟩
abbrev cX2_expectNumbersOnce : ByteArray := prog_4_method_9_code
def yX2_expectNumbersOnce : MethodName := ⟨RX2, "expectNumbersOnce", "(Ljava/util/ArrayList;)V"⟩
abbrev cX2_expect : ByteArray := prog_4_method_10_code
def yX2_expect : MethodName := ⟨RX2, "expect", "(ZI)V"⟩
abbrev cX2_isFirst : ByteArray := prog_4_method_11_code
def yX2_isFirst : MethodName := ⟨RX2, "isFirst", "(I)Z"⟩
abbrev cX2_codingNamed : ByteArray := prog_4_method_12_code
def yX2_codingNamed : MethodName := ⟨RX2, "codingNamed", "(J)LDescribeText$Coding;"⟩
abbrev cX2_layerNamed : ByteArray := prog_4_method_13_code
def yX2_layerNamed : MethodName := ⟨RX2, "layerNamed", "(J)LDescribeText$Layer;"⟩
abbrev cX2_serviceNamed : ByteArray := prog_4_method_14_code
def yX2_serviceNamed : MethodName := ⟨RX2, "serviceNamed", "(J)LDescribeText$Service;"⟩
abbrev cX2_jobNamed : ByteArray := prog_4_method_15_code
def yX2_jobNamed : MethodName := ⟨RX2, "jobNamed", "(J)LDescribeText$Job;"⟩
abbrev cX2_serviceIn : ByteArray := prog_4_method_16_code
def yX2_serviceIn : MethodName := ⟨RX2, "serviceIn", "(LDescribeText$Layer;J)LDescribeText$Service;"⟩
abbrev cX2_numberInUse : ByteArray := prog_4_method_17_code
def yX2_numberInUse : MethodName := ⟨RX2, "numberInUse", "(J)I"⟩
abbrev cX2_layerFor : ByteArray := prog_4_method_18_code
def yX2_layerFor : MethodName := ⟨RX2, "layerFor", "(I)LDescribeText$Layer;"⟩
abbrev cX2_isVariant : ByteArray := prog_4_method_19_code
def yX2_isVariant : MethodName := ⟨RX2, "isVariant", "(LDescribeText$Layer;)Z"⟩
abbrev cX2_countUnlike : ByteArray := prog_4_method_20_code
def yX2_countUnlike : MethodName := ⟨RX2, "countUnlike", "(LDescribeText$Edition;)I"⟩
abbrev cX2_hasLike : ByteArray := prog_4_method_21_code
def yX2_hasLike : MethodName := ⟨RX2, "hasLike", "(LDescribeText$Service;)Z"⟩
def RX3 : String := "DescribeText$Entry"
def TX3 : u_T := fun k => match k with
  | 0 => ("DescribeText$Entry", "z", "I", false)
  | 1 => ("DescribeText$Entry", "zAt", "I", false)
  | 2 => ("DescribeText$Entry", "name", "J", false)
  | 3 => ("DescribeText$Entry", "nameAt", "I", false)
  | _ => ("DescribeText$Entry", "layer", "LDescribeText$Layer;", false)
def tyX3 : Nat → FieldType := fun k => match k with
  | 0 => .int
  | 1 => .int
  | 2 => .long
  | 3 => .int
  | _ => .object "DescribeText$Layer"
theorem nmX3 : ∀ a, a < 5 → ∀ b, b < 5 → a ≠ b → (TX3 a).2.1 ≠ (TX3 b).2.1 := by decide +kernel
theorem tyX3_ok : ∀ k, k < 5 → parseFieldDescriptor (TX3 k).2.2.1 = some (tyX3 k) := by decide +kernel
abbrev cX3_init : ByteArray := prog_5_method_1_code
def yX3_init : MethodName := ⟨RX3, "<init>", "()V"⟩
def RX4 : String := "DescribeText$Job"
def TX4 : u_T := fun k => match k with
  | 0 => ("DescribeText$Job", "at", "I", true)
  | 1 => ("DescribeText$Job", "name", "J", true)
  | 2 => ("DescribeText$Job", "ops", "Ljava/util/ArrayList;", true)
  | 3 => ("DescribeText$Job", "pile", "[J", true)
  | _ => ("DescribeText$Job", "height", "I", false)
def tyX4 : Nat → FieldType := fun k => match k with
  | 0 => .int
  | 1 => .long
  | 2 => .object "java/util/ArrayList"
  | 3 => .array .long
  | _ => .int
theorem nmX4 : ∀ a, a < 5 → ∀ b, b < 5 → a ≠ b → (TX4 a).2.1 ≠ (TX4 b).2.1 := by decide +kernel
theorem tyX4_ok : ∀ k, k < 5 → parseFieldDescriptor (TX4 k).2.2.1 = some (tyX4 k) := by decide +kernel
abbrev cX4_init : ByteArray := prog_6_method_1_code
def yX4_init : MethodName := ⟨RX4, "<init>", "(IJ)V"⟩
abbrev cX4_run : ByteArray := prog_6_method_2_code
def yX4_run : MethodName := ⟨RX4, "run", "(ILDescribeText$Octets;LDescribeText$Octets;)I"⟩
abbrev cX4_refusalOf : ByteArray := prog_6_method_3_code
def yX4_refusalOf : MethodName := ⟨RX4, "refusalOf", "(LDescribeText$Token;LDescribeText$Octets;)I"⟩
abbrev cX4_step : ByteArray := prog_6_method_4_code
def yX4_step : MethodName := ⟨RX4, "step", "(LDescribeText$Op;LDescribeText$Octets;LDescribeText$Octets;)V"⟩
abbrev cX4_join : ByteArray := prog_6_method_5_code
def yX4_join : MethodName := ⟨RX4, "join", "(LDescribeText$Token;)V"⟩
abbrev cX4_lay : ByteArray := prog_6_method_6_code
def yX4_lay : MethodName := ⟨RX4, "lay", "(J)V"⟩
abbrev cX4_lift : ByteArray := prog_6_method_7_code
def yX4_lift : MethodName := ⟨RX4, "lift", "()J"⟩
def RX5 : String := "DescribeText$Layer"
def TX5 : u_T := fun k => match k with
  | 0 => ("DescribeText$Layer", "number", "I", true)
  | 1 => ("DescribeText$Layer", "at", "I", true)
  | 2 => ("DescribeText$Layer", "name", "J", true)
  | 3 => ("DescribeText$Layer", "ofName", "J", false)
  | 4 => ("DescribeText$Layer", "ofAt", "I", false)
  | _ => ("DescribeText$Layer", "of", "LDescribeText$Layer;", false)
def tyX5 : Nat → FieldType := fun k => match k with
  | 0 => .int
  | 1 => .int
  | 2 => .long
  | 3 => .long
  | 4 => .int
  | _ => .object "DescribeText$Layer"
theorem nmX5 : ∀ a, a < 6 → ∀ b, b < 6 → a ≠ b → (TX5 a).2.1 ≠ (TX5 b).2.1 := by decide +kernel
theorem tyX5_ok : ∀ k, k < 6 → parseFieldDescriptor (TX5 k).2.2.1 = some (tyX5 k) := by decide +kernel
abbrev cX5_init : ByteArray := prog_7_method_1_code
def yX5_init : MethodName := ⟨RX5, "<init>", "(IIJ)V"⟩
abbrev cX5_isInRing : ByteArray := prog_7_method_2_code
def yX5_isInRing : MethodName := ⟨RX5, "isInRing", "()Z"⟩
def RX6 : String := "DescribeText$Octets"
def TX6 : u_T := fun k => match k with
  | 0 => ("DescribeText$Octets", "row", "[B", true)
  | _ => ("DescribeText$Octets", "length", "I", false)
def tyX6 : Nat → FieldType := fun k => match k with
  | 0 => .array .byte
  | _ => .int
theorem nmX6 : ∀ a, a < 2 → ∀ b, b < 2 → a ≠ b → (TX6 a).2.1 ≠ (TX6 b).2.1 := by decide +kernel
theorem tyX6_ok : ∀ k, k < 2 → parseFieldDescriptor (TX6 k).2.2.1 = some (tyX6 k) := by decide +kernel
abbrev cX6_init : ByteArray := prog_8_method_1_code
def yX6_init : MethodName := ⟨RX6, "<init>", "()V"⟩
abbrev cX6_add : ByteArray := prog_8_method_2_code
def yX6_add : MethodName := ⟨RX6, "add", "(I)V"⟩
abbrev cX6_at : ByteArray := prog_8_method_3_code
def yX6_at : MethodName := ⟨RX6, "at", "(I)I"⟩
def RX7 : String := "DescribeText$Op"
def TX7 : u_T := fun k => match k with
  | 0 => ("DescribeText$Op", "kind", "LDescribeText$Token;", true)
  | 1 => ("DescribeText$Op", "number", "J", false)
  | 2 => ("DescribeText$Op", "serviceName", "J", false)
  | 3 => ("DescribeText$Op", "serviceAt", "I", false)
  | 4 => ("DescribeText$Op", "from", "LDescribeText$Service;", false)
  | 5 => ("DescribeText$Op", "parameterName", "J", false)
  | 6 => ("DescribeText$Op", "parameterAt", "I", false)
  | 7 => ("DescribeText$Op", "what", "LDescribeText$Parameter;", false)
  | _ => ("DescribeText$Op", "target", "I", false)
def tyX7 : Nat → FieldType := fun k => match k with
  | 0 => .object "DescribeText$Token"
  | 1 => .long
  | 2 => .long
  | 3 => .int
  | 4 => .object "DescribeText$Service"
  | 5 => .long
  | 6 => .int
  | 7 => .object "DescribeText$Parameter"
  | _ => .int
theorem nmX7 : ∀ a, a < 9 → ∀ b, b < 9 → a ≠ b → (TX7 a).2.1 ≠ (TX7 b).2.1 := by decide +kernel
theorem tyX7_ok : ∀ k, k < 9 → parseFieldDescriptor (TX7 k).2.2.1 = some (tyX7 k) := by decide +kernel
abbrev cX7_init : ByteArray := prog_9_method_1_code
def yX7_init : MethodName := ⟨RX7, "<init>", "(LDescribeText$Token;)V"⟩
abbrev cX7_valueIn : ByteArray := prog_9_method_2_code
def yX7_valueIn : MethodName := ⟨RX7, "valueIn", "(LDescribeText$Octets;)J"⟩
def RX8 : String := "DescribeText$Parameter"
def TX8 : u_T := fun k => match k with
  | 0 => ("DescribeText$Parameter", "number", "I", true)
  | 1 => ("DescribeText$Parameter", "at", "I", true)
  | 2 => ("DescribeText$Parameter", "name", "J", true)
  | 3 => ("DescribeText$Parameter", "codingName", "J", false)
  | 4 => ("DescribeText$Parameter", "codingAt", "I", false)
  | 5 => ("DescribeText$Parameter", "coding", "LDescribeText$Coding;", false)
  | 6 => ("DescribeText$Parameter", "kind", "I", false)
  | 7 => ("DescribeText$Parameter", "earlierName", "J", false)
  | 8 => ("DescribeText$Parameter", "earlierAt", "I", false)
  | 9 => ("DescribeText$Parameter", "earlier", "LDescribeText$Parameter;", false)
  | 10 => ("DescribeText$Parameter", "z", "I", false)
  | 11 => ("DescribeText$Parameter", "place", "I", false)
  | 12 => ("DescribeText$Parameter", "size", "I", false)
  | 13 => ("DescribeText$Parameter", "raw", "J", false)
  | _ => ("DescribeText$Parameter", "remembered", "J", false)
def tyX8 : Nat → FieldType := fun k => match k with
  | 0 => .int
  | 1 => .int
  | 2 => .long
  | 3 => .long
  | 4 => .int
  | 5 => .object "DescribeText$Coding"
  | 6 => .int
  | 7 => .long
  | 8 => .int
  | 9 => .object "DescribeText$Parameter"
  | 10 => .int
  | 11 => .int
  | 12 => .int
  | 13 => .long
  | _ => .long
theorem nmX8 : ∀ a, a < 15 → ∀ b, b < 15 → a ≠ b → (TX8 a).2.1 ≠ (TX8 b).2.1 := by decide +kernel
theorem tyX8_ok : ∀ k, k < 15 → parseFieldDescriptor (TX8 k).2.2.1 = some (tyX8 k) := by decide +kernel
abbrev cX8_init : ByteArray := prog_10_method_1_code
def yX8_init : MethodName := ⟨RX8, "<init>", "(IIJ)V"⟩
abbrev cX8_wantedSize : ByteArray := prog_10_method_2_code
def yX8_wantedSize : MethodName := ⟨RX8, "wantedSize", "()I"⟩
abbrev cX8_groups : ByteArray := prog_10_method_3_code
def yX8_groups : MethodName := ⟨RX8, "groups", "()I"⟩
abbrev cX8_lay : ByteArray := prog_10_method_4_code
def yX8_lay : MethodName := ⟨RX8, "lay", "(IIJ)V"⟩
abbrev cX8_write : ByteArray := prog_10_method_5_code
def yX8_write : MethodName := ⟨RX8, "write", "(LDescribeText$Octets;)V"⟩
abbrev cX8_isLike : ByteArray := prog_10_method_6_code
def yX8_isLike : MethodName := ⟨RX8, "isLike", "(LDescribeText$Parameter;)Z"⟩
def RX9 : String := "DescribeText$Reader"
def TX9 : u_T := fun k => match k with
  | 0 => ("DescribeText$Reader", "tokens", "LDescribeText$Tokens;", true)
  | 1 => ("DescribeText$Reader", "openWhiles", "[I", true)
  | 2 => ("DescribeText$Reader", "edition", "LDescribeText$Edition;", false)
  | 3 => ("DescribeText$Reader", "place", "I", false)
  | _ => ("DescribeText$Reader", "faultAt", "I", false)
def tyX9 : Nat → FieldType := fun k => match k with
  | 0 => .object "DescribeText$Tokens"
  | 1 => .array .int
  | 2 => .object "DescribeText$Edition"
  | 3 => .int
  | _ => .int
theorem nmX9 : ∀ a, a < 5 → ∀ b, b < 5 → a ≠ b → (TX9 a).2.1 ≠ (TX9 b).2.1 := by decide +kernel
theorem tyX9_ok : ∀ k, k < 5 → parseFieldDescriptor (TX9 k).2.2.1 = some (tyX9 k) := by decide +kernel
abbrev cX9_init : ByteArray := prog_11_method_1_code
def yX9_init : MethodName := ⟨RX9, "<init>", "()V"⟩
abbrev cX9_fill : ByteArray := prog_11_method_2_code
def yX9_fill : MethodName := ⟨RX9, "fill", "(LDescribeText$Edition;[BI)I"⟩
abbrev cX9_noteNames : ByteArray := prog_11_method_3_code
def yX9_noteNames : MethodName := ⟨RX9, "noteNames", "()V"⟩
abbrev cX9_takeCoding : ByteArray := prog_11_method_4_code
def yX9_takeCoding : MethodName := ⟨RX9, "takeCoding", "()V"⟩
abbrev cX9_takeForm : ByteArray := prog_11_method_5_code
def yX9_takeForm : MethodName := ⟨RX9, "takeForm", "(LDescribeText$Coding;)V"⟩
abbrev cX9_takeRows : ByteArray := prog_11_method_6_code
def yX9_takeRows : MethodName := ⟨RX9, "takeRows", "(LDescribeText$Coding;)V"⟩
abbrev cX9_takeLayer : ByteArray := prog_11_method_7_code
def yX9_takeLayer : MethodName := ⟨RX9, "takeLayer", "()V"⟩
abbrev cX9_takeService : ByteArray := prog_11_method_8_code
def yX9_takeService : MethodName := ⟨RX9, "takeService", "(LDescribeText$Layer;)V"⟩
abbrev cX9_takeParameter : ByteArray := prog_11_method_9_code
def yX9_takeParameter : MethodName := ⟨RX9, "takeParameter", "(LDescribeText$Service;)V"⟩
abbrev cX9_takeCode : ByteArray := prog_11_method_10_code
def yX9_takeCode : MethodName := ⟨RX9, "takeCode", "()V"⟩
abbrev cX9_takeVariant : ByteArray := prog_11_method_11_code
def yX9_takeVariant : MethodName := ⟨RX9, "takeVariant", "()V"⟩
abbrev cX9_takeJob : ByteArray := prog_11_method_12_code
def yX9_takeJob : MethodName := ⟨RX9, "takeJob", "()V"⟩
abbrev cX9_takeOp : ByteArray := prog_11_method_13_code
def yX9_takeOp : MethodName := ⟨RX9, "takeOp", "(LDescribeText$Job;II)I"⟩
abbrev cX9_openWhile : ByteArray := prog_11_method_14_code
def yX9_openWhile : MethodName := ⟨RX9, "openWhile", "(LDescribeText$Job;I)I"⟩
abbrev cX9_closeWhile : ByteArray := prog_11_method_15_code
def yX9_closeWhile : MethodName := ⟨RX9, "closeWhile", "(LDescribeText$Job;I)V"⟩
abbrev cX9_begin : ByteArray := prog_11_method_16_code
def yX9_begin : MethodName := ⟨RX9, "begin", "(II)V"⟩
abbrev cX9_take : ByteArray := prog_11_method_17_code
def yX9_take : MethodName := ⟨RX9, "take", "(LDescribeText$Token;)V"⟩
abbrev cX9_takeNumber : ByteArray := prog_11_method_18_code
def yX9_takeNumber : MethodName := ⟨RX9, "takeNumber", "(II)I"⟩
abbrev cX9_takeValue : ByteArray := prog_11_method_19_code
def yX9_takeValue : MethodName := ⟨RX9, "takeValue", "()I"⟩
abbrev cX9_takeName : ByteArray := prog_11_method_20_code
def yX9_takeName : MethodName := ⟨RX9, "takeName", "()J"⟩
abbrev cX9_takeNumberOf : ByteArray := prog_11_method_21_code
def yX9_takeNumberOf : MethodName := ⟨RX9, "takeNumberOf", "(LDescribeText$Entry;)V"⟩
abbrev cX9_takeNameOf : ByteArray := prog_11_method_22_code
def yX9_takeNameOf : MethodName := ⟨RX9, "takeNameOf", "(LDescribeText$Entry;)V"⟩
abbrev cX9_sees : ByteArray := prog_11_method_23_code
def yX9_sees : MethodName := ⟨RX9, "sees", "(LDescribeText$Token;)Z"⟩
abbrev cX9_start : ByteArray := prog_11_method_24_code
def yX9_start : MethodName := ⟨RX9, "start", "()I"⟩
abbrev cX9_fail : ByteArray := prog_11_method_25_code
def yX9_fail : MethodName := ⟨RX9, "fail", "()V"⟩
def RX10 : String := "DescribeText$Service"
def TX10 : u_T := fun k => match k with
  | 0 => ("DescribeText$Service", "number", "I", true)
  | 1 => ("DescribeText$Service", "layer", "LDescribeText$Layer;", true)
  | 2 => ("DescribeText$Service", "at", "I", true)
  | 3 => ("DescribeText$Service", "name", "J", true)
  | 4 => ("DescribeText$Service", "parameters", "Ljava/util/ArrayList;", true)
  | _ => ("DescribeText$Service", "z", "I", false)
def tyX10 : Nat → FieldType := fun k => match k with
  | 0 => .int
  | 1 => .object "DescribeText$Layer"
  | 2 => .int
  | 3 => .long
  | 4 => .object "java/util/ArrayList"
  | _ => .int
theorem nmX10 : ∀ a, a < 6 → ∀ b, b < 6 → a ≠ b → (TX10 a).2.1 ≠ (TX10 b).2.1 := by decide +kernel
theorem tyX10_ok : ∀ k, k < 6 → parseFieldDescriptor (TX10 k).2.2.1 = some (tyX10 k) := by decide +kernel
abbrev cX10_init : ByteArray := prog_12_method_1_code
def yX10_init : MethodName := ⟨RX10, "<init>", "(ILDescribeText$Layer;IJ)V"⟩
abbrev cX10_named : ByteArray := prog_12_method_2_code
def yX10_named : MethodName := ⟨RX10, "named", "(J)LDescribeText$Parameter;"⟩
abbrev cX10_tell : ByteArray := prog_12_method_3_code
def yX10_tell : MethodName := ⟨RX10, "tell", "(LDescribeText$Octets;)V"⟩
abbrev cX10_make : ByteArray := prog_12_method_4_code
def yX10_make : MethodName := ⟨RX10, "make", "(LDescribeText$Octets;)V"⟩
abbrev cX10_forget : ByteArray := prog_12_method_5_code
def yX10_forget : MethodName := ⟨RX10, "forget", "()V"⟩
abbrev cX10_isLike : ByteArray := prog_12_method_6_code
def yX10_isLike : MethodName := ⟨RX10, "isLike", "(LDescribeText$Service;)Z"⟩
def RX11 : String := "DescribeText$Token"
def TX11 : u_T := fun k => match k with
  | _ => ("", "", "", false)
def tyX11 : Nat → FieldType := fun k => match k with
  | _ => .int
theorem nmX11 : ∀ a, a < 0 → ∀ b, b < 0 → a ≠ b → (TX11 a).2.1 ≠ (TX11 b).2.1 := by decide +kernel
theorem tyX11_ok : ∀ k, k < 0 → parseFieldDescriptor (TX11 k).2.2.1 = some (tyX11 k) := by decide +kernel
abbrev cX11_standing : ByteArray := prog_13_method_5_code
def yX11_standing : MethodName := ⟨RX11, "standing", "([BII)LDescribeText$Token;"⟩
abbrev cX11_stands : ByteArray := prog_13_method_6_code
def yX11_stands : MethodName := ⟨RX11, "stands", "([BII)Z"⟩
abbrev cX11_isOp : ByteArray := prog_13_method_7_code
def yX11_isOp : MethodName := ⟨RX11, "isOp", "()Z"⟩
def RX12 : String := "DescribeText$Tokens"
def TX12 : u_T := fun k => match k with
  | 0 => ("DescribeText$Tokens", "kinds", "[LDescribeText$Token;", true)
  | 1 => ("DescribeText$Tokens", "starts", "[I", true)
  | 2 => ("DescribeText$Tokens", "values", "[J", true)
  | _ => ("DescribeText$Tokens", "count", "I", false)
def tyX12 : Nat → FieldType := fun k => match k with
  | 0 => .array (.object "DescribeText$Token")
  | 1 => .array .int
  | 2 => .array .long
  | _ => .int
theorem nmX12 : ∀ a, a < 4 → ∀ b, b < 4 → a ≠ b → (TX12 a).2.1 ≠ (TX12 b).2.1 := by decide +kernel
theorem tyX12_ok : ∀ k, k < 4 → parseFieldDescriptor (TX12 k).2.2.1 = some (tyX12 k) := by decide +kernel
abbrev cX12_init : ByteArray := prog_14_method_1_code
def yX12_init : MethodName := ⟨RX12, "<init>", "()V"⟩
abbrev cX12_cut : ByteArray := prog_14_method_2_code
def yX12_cut : MethodName := ⟨RX12, "cut", "([BI)V"⟩
abbrev cX12_kind : ByteArray := prog_14_method_3_code
def yX12_kind : MethodName := ⟨RX12, "kind", "(I)LDescribeText$Token;"⟩
abbrev cX12_start : ByteArray := prog_14_method_4_code
def yX12_start : MethodName := ⟨RX12, "start", "(I)I"⟩
abbrev cX12_value : ByteArray := prog_14_method_5_code
def yX12_value : MethodName := ⟨RX12, "value", "(I)J"⟩
abbrev cX12_cutOne : ByteArray := prog_14_method_6_code
def yX12_cutOne : MethodName := ⟨RX12, "cutOne", "([BII)I"⟩
abbrev cX12_cutName : ByteArray := prog_14_method_7_code
def yX12_cutName : MethodName := ⟨RX12, "cutName", "([BII)I"⟩
abbrev cX12_cutNumber : ByteArray := prog_14_method_8_code
def yX12_cutNumber : MethodName := ⟨RX12, "cutNumber", "([BII)I"⟩
abbrev cX12_stop : ByteArray := prog_14_method_9_code
def yX12_stop : MethodName := ⟨RX12, "stop", "(II)I"⟩
abbrev cX12_add : ByteArray := prog_14_method_10_code
def yX12_add : MethodName := ⟨RX12, "add", "(LDescribeText$Token;IJ)V"⟩
abbrev cX12_isBlank : ByteArray := prog_14_method_11_code
def yX12_isBlank : MethodName := ⟨RX12, "isBlank", "(B)Z"⟩
abbrev cX12_isLetter : ByteArray := prog_14_method_12_code
def yX12_isLetter : MethodName := ⟨RX12, "isLetter", "(B)Z"⟩
abbrev cX12_isDigit : ByteArray := prog_14_method_13_code
def yX12_isDigit : MethodName := ⟨RX12, "isDigit", "(B)Z"⟩
def RX13 : String := "DescribeText"
def TX13 : u_T := fun k => match k with
  | 0 => ("DescribeText", "text", "[B", true)
  | 1 => ("DescribeText", "reader", "LDescribeText$Reader;", true)
  | 2 => ("DescribeText", "told", "LDescribeText$Octets;", true)
  | 3 => ("DescribeText", "sent", "LDescribeText$Octets;", true)
  | 4 => ("DescribeText", "kept", "[LDescribeText$Edition;", true)
  | 5 => ("DescribeText", "textLength", "I", false)
  | 6 => ("DescribeText", "keptCount", "I", false)
  | 7 => ("DescribeText", "hand", "LDescribeText$Edition;", false)
  | _ => ("DescribeText", "ringStart", "LDescribeText$Layer;", false)
def tyX13 : Nat → FieldType := fun k => match k with
  | 0 => .array .byte
  | 1 => .object "DescribeText$Reader"
  | 2 => .object "DescribeText$Octets"
  | 3 => .object "DescribeText$Octets"
  | 4 => .array (.object "DescribeText$Edition")
  | 5 => .int
  | 6 => .int
  | 7 => .object "DescribeText$Edition"
  | _ => .object "DescribeText$Layer"
theorem nmX13 : ∀ a, a < 9 → ∀ b, b < 9 → a ≠ b → (TX13 a).2.1 ≠ (TX13 b).2.1 := by decide +kernel
theorem tyX13_ok : ∀ k, k < 9 → parseFieldDescriptor (TX13 k).2.2.1 = some (tyX13 k) := by decide +kernel
abbrev cX13_init : ByteArray := prog_1_method_1_code
def yX13_init : MethodName := ⟨RX13, "<init>", "()V"⟩
abbrev cX13_sign : ByteArray := prog_1_method_2_code
def yX13_sign : MethodName := ⟨RX13, "sign", "(I)V"⟩
abbrev cX13_read : ByteArray := prog_1_method_3_code
def yX13_read : MethodName := ⟨RX13, "read", "()I"⟩
abbrev cX13_service : ByteArray := prog_1_method_4_code
def yX13_service : MethodName := ⟨RX13, "service", "(II)I"⟩
abbrev cX13_parameter : ByteArray := prog_1_method_5_code
def yX13_parameter : MethodName := ⟨RX13, "parameter", "(III)I"⟩
abbrev cX13_decode : ByteArray := prog_1_method_6_code
def yX13_decode : MethodName := ⟨RX13, "decode", "(III)J"⟩
abbrev cX13_octet : ByteArray := prog_1_method_7_code
def yX13_octet : MethodName := ⟨RX13, "octet", "(B)V"⟩
abbrev cX13_encode : ByteArray := prog_1_method_8_code
def yX13_encode : MethodName := ⟨RX13, "encode", "(IIJ)I"⟩
abbrev cX13_out : ByteArray := prog_1_method_9_code
def yX13_out : MethodName := ⟨RX13, "out", "(I)B"⟩
abbrev cX13_variant : ByteArray := prog_1_method_10_code
def yX13_variant : MethodName := ⟨RX13, "variant", "(I)I"⟩
abbrev cX13_job : ByteArray := prog_1_method_11_code
def yX13_job : MethodName := ⟨RX13, "job", "(IJ)I"⟩
abbrev cX13_ring : ByteArray := prog_1_method_12_code
def yX13_ring : MethodName := ⟨RX13, "ring", "(I)I"⟩
abbrev cX13_compare : ByteArray := prog_1_method_13_code
def yX13_compare : MethodName := ⟨RX13, "compare", "(I)I"⟩
abbrev cX13_code : ByteArray := prog_1_method_14_code
def yX13_code : MethodName := ⟨RX13, "code", "(I)I"⟩
abbrev cX13_take : ByteArray := prog_1_method_15_code
def yX13_take : MethodName := ⟨RX13, "take", "(LDescribeText$Edition;)V"⟩
abbrev cX13_lineAt : ByteArray := prog_1_method_16_code
def yX13_lineAt : MethodName := ⟨RX13, "lineAt", "(I)I"⟩
abbrev cX13_serviceNumbered : ByteArray := prog_1_method_17_code
def yX13_serviceNumbered : MethodName := ⟨RX13, "serviceNumbered", "(I)LDescribeText$Service;"⟩
abbrev cX13_parameterNumbered : ByteArray := prog_1_method_18_code
def yX13_parameterNumbered : MethodName := ⟨RX13, "parameterNumbered", "(LDescribeText$Service;I)LDescribeText$Parameter;"⟩
abbrev cX13_firstWithNumber : ByteArray := prog_1_method_19_code
def yX13_firstWithNumber : MethodName := ⟨RX13, "firstWithNumber", "(Ljava/util/ArrayList;J)LDescribeText$Entry;"⟩
def RX14 : String := "DescribeTextModel"
def TX14 : u_T := fun k => match k with
  | 0 => ("DescribeTextModel", "names", "[I", true)
  | 1 => ("DescribeTextModel", "codings", "[I", true)
  | 2 => ("DescribeTextModel", "layers", "[I", true)
  | 3 => ("DescribeTextModel", "services", "[I", true)
  | 4 => ("DescribeTextModel", "codes", "[I", true)
  | 5 => ("DescribeTextModel", "variants", "[I", true)
  | 6 => ("DescribeTextModel", "jobs", "[I", true)
  | 7 => ("DescribeTextModel", "nameLength", "[I", true)
  | 8 => ("DescribeTextModel", "nameOctets", "[I", true)
  | 9 => ("DescribeTextModel", "codingName", "[I", true)
  | 10 => ("DescribeTextModel", "octets", "[I", true)
  | 11 => ("DescribeTextModel", "form", "[I", true)
  | 12 => ("DescribeTextModel", "up", "[I", true)
  | 13 => ("DescribeTextModel", "down", "[I", true)
  | 14 => ("DescribeTextModel", "more", "[I", true)
  | 15 => ("DescribeTextModel", "rows", "[I", true)
  | 16 => ("DescribeTextModel", "rowZ", "[I", true)
  | 17 => ("DescribeTextModel", "rowName", "[I", true)
  | 18 => ("DescribeTextModel", "layerName", "[I", true)
  | 19 => ("DescribeTextModel", "layerOf", "[I", true)
  | 20 => ("DescribeTextModel", "serviceName", "[I", true)
  | 21 => ("DescribeTextModel", "serviceZ", "[I", true)
  | 22 => ("DescribeTextModel", "serviceLayer", "[I", true)
  | 23 => ("DescribeTextModel", "params", "[I", true)
  | 24 => ("DescribeTextModel", "paramName", "[I", true)
  | 25 => ("DescribeTextModel", "paramCoding", "[I", true)
  | 26 => ("DescribeTextModel", "paramKind", "[I", true)
  | 27 => ("DescribeTextModel", "paramOther", "[I", true)
  | 28 => ("DescribeTextModel", "paramZ", "[I", true)
  | 29 => ("DescribeTextModel", "codeZ", "[I", true)
  | 30 => ("DescribeTextModel", "codeName", "[I", true)
  | 31 => ("DescribeTextModel", "variantLayer", "[I", true)
  | 32 => ("DescribeTextModel", "variantZ", "[I", true)
  | 33 => ("DescribeTextModel", "jobName", "[I", true)
  | 34 => ("DescribeTextModel", "ops", "[I", true)
  | 35 => ("DescribeTextModel", "opKind", "[I", true)
  | 36 => ("DescribeTextModel", "opA", "[I", true)
  | 37 => ("DescribeTextModel", "opB", "[I", true)
  | 38 => ("DescribeTextModel", "thrown", "I", false)
  | 39 => ("DescribeTextModel", "size", "I", false)
  | 40 => ("DescribeTextModel", "text", "[I", true)
  | 41 => ("DescribeTextModel", "draft", "I", false)
  | 42 => ("DescribeTextModel", "book", "I", false)
  | 43 => ("DescribeTextModel", "inHand", "Z", false)
  | 44 => ("DescribeTextModel", "editions", "I", false)
  | 45 => ("DescribeTextModel", "keptSize", "[I", true)
  | 46 => ("DescribeTextModel", "kept", "[I", true)
  | 47 => ("DescribeTextModel", "source", "[I", false)
  | 48 => ("DescribeTextModel", "sourceFrom", "I", false)
  | 49 => ("DescribeTextModel", "sourceEnd", "I", false)
  | 50 => ("DescribeTextModel", "at", "I", false)
  | 51 => ("DescribeTextModel", "line", "I", false)
  | 52 => ("DescribeTextModel", "kind", "I", false)
  | 53 => ("DescribeTextModel", "value", "I", false)
  | 54 => ("DescribeTextModel", "tokenLine", "I", false)
  | 55 => ("DescribeTextModel", "good", "Z", false)
  | 56 => ("DescribeTextModel", "jobOps", "I", false)
  | 57 => ("DescribeTextModel", "deep", "I", false)
  | 58 => ("DescribeTextModel", "claims", "I", false)
  | 59 => ("DescribeTextModel", "claimKind", "[I", true)
  | 60 => ("DescribeTextModel", "claimLine", "[I", true)
  | 61 => ("DescribeTextModel", "claimA", "[I", true)
  | 62 => ("DescribeTextModel", "claimB", "[I", true)
  | 63 => ("DescribeTextModel", "rings", "I", false)
  | 64 => ("DescribeTextModel", "ring", "[I", true)
  | 65 => ("DescribeTextModel", "answer", "[I", true)
  | 66 => ("DescribeTextModel", "answerSize", "I", false)
  | 67 => ("DescribeTextModel", "sent", "[I", true)
  | 68 => ("DescribeTextModel", "sentSize", "I", false)
  | 69 => ("DescribeTextModel", "inUse", "I", false)
  | 70 => ("DescribeTextModel", "raws", "[J", true)
  | 71 => ("DescribeTextModel", "there", "[Z", true)
  | 72 => ("DescribeTextModel", "place", "[I", true)
  | 73 => ("DescribeTextModel", "length", "[I", true)
  | 74 => ("DescribeTextModel", "raw", "[J", true)
  | _ => ("DescribeTextModel", "pile", "[J", true)
def tyX14 : Nat → FieldType := fun k => match k with
  | 0 => .array .int
  | 1 => .array .int
  | 2 => .array .int
  | 3 => .array .int
  | 4 => .array .int
  | 5 => .array .int
  | 6 => .array .int
  | 7 => .array .int
  | 8 => .array .int
  | 9 => .array .int
  | 10 => .array .int
  | 11 => .array .int
  | 12 => .array .int
  | 13 => .array .int
  | 14 => .array .int
  | 15 => .array .int
  | 16 => .array .int
  | 17 => .array .int
  | 18 => .array .int
  | 19 => .array .int
  | 20 => .array .int
  | 21 => .array .int
  | 22 => .array .int
  | 23 => .array .int
  | 24 => .array .int
  | 25 => .array .int
  | 26 => .array .int
  | 27 => .array .int
  | 28 => .array .int
  | 29 => .array .int
  | 30 => .array .int
  | 31 => .array .int
  | 32 => .array .int
  | 33 => .array .int
  | 34 => .array .int
  | 35 => .array .int
  | 36 => .array .int
  | 37 => .array .int
  | 38 => .int
  | 39 => .int
  | 40 => .array .int
  | 41 => .int
  | 42 => .int
  | 43 => .boolean
  | 44 => .int
  | 45 => .array .int
  | 46 => .array .int
  | 47 => .array .int
  | 48 => .int
  | 49 => .int
  | 50 => .int
  | 51 => .int
  | 52 => .int
  | 53 => .int
  | 54 => .int
  | 55 => .boolean
  | 56 => .int
  | 57 => .int
  | 58 => .int
  | 59 => .array .int
  | 60 => .array .int
  | 61 => .array .int
  | 62 => .array .int
  | 63 => .int
  | 64 => .array .int
  | 65 => .array .int
  | 66 => .int
  | 67 => .array .int
  | 68 => .int
  | 69 => .int
  | 70 => .array .long
  | 71 => .array .boolean
  | 72 => .array .int
  | 73 => .array .int
  | 74 => .array .long
  | _ => .array .long
theorem nmX14 : ∀ a, a < 76 → ∀ b, b < 76 → a ≠ b → (TX14 a).2.1 ≠ (TX14 b).2.1 := by decide +kernel
theorem tyX14_ok : ∀ k, k < 76 → parseFieldDescriptor (TX14 k).2.2.1 = some (tyX14 k) := by decide +kernel
abbrev cX14_init : ByteArray := prog_16_method_1_code
def yX14_init : MethodName := ⟨RX14, "<init>", "()V"⟩
abbrev cX14_sign : ByteArray := prog_16_method_3_code
def yX14_sign : MethodName := ⟨RX14, "sign", "(I)V"⟩
abbrev cX14_clear : ByteArray := prog_16_method_4_code
def yX14_clear : MethodName := ⟨RX14, "clear", "()V"⟩
abbrev cX14_codingAt : ByteArray := prog_16_method_5_code
def yX14_codingAt : MethodName := ⟨RX14, "codingAt", "(II)I"⟩
abbrev cX14_layerAt : ByteArray := prog_16_method_6_code
def yX14_layerAt : MethodName := ⟨RX14, "layerAt", "(II)I"⟩
abbrev cX14_serviceAt : ByteArray := prog_16_method_7_code
def yX14_serviceAt : MethodName := ⟨RX14, "serviceAt", "(III)I"⟩
abbrev cX14_paramAt : ByteArray := prog_16_method_8_code
def yX14_paramAt : MethodName := ⟨RX14, "paramAt", "(III)I"⟩
abbrev cX14_isLetter : ByteArray := prog_16_method_9_code
def yX14_isLetter : MethodName := ⟨RX14, "isLetter", "(I)Z"⟩
abbrev cX14_isDigit : ByteArray := prog_16_method_10_code
def yX14_isDigit : MethodName := ⟨RX14, "isDigit", "(I)Z"⟩
abbrev cX14_here : ByteArray := prog_16_method_11_code
def yX14_here : MethodName := ⟨RX14, "here", "()I"⟩
abbrev cX14_packed : ByteArray := prog_16_method_12_code
def yX14_packed : MethodName := ⟨RX14, "packed", "(II)J"⟩
abbrev cX14_wordOf : ByteArray := prog_16_method_13_code
def yX14_wordOf : MethodName := ⟨RX14, "wordOf", "(II)I"⟩
abbrev cX14_otherWord : ByteArray := prog_16_method_14_code
def yX14_otherWord : MethodName := ⟨RX14, "otherWord", "(J)I"⟩
abbrev cX14_nameOf : ByteArray := prog_16_method_15_code
def yX14_nameOf : MethodName := ⟨RX14, "nameOf", "(II)I"⟩
abbrev cX14_next : ByteArray := prog_16_method_16_code
def yX14_next : MethodName := ⟨RX14, "next", "()V"⟩
abbrev cX14_wants : ByteArray := prog_16_method_17_code
def yX14_wants : MethodName := ⟨RX14, "wants", "(Z)Z"⟩
abbrev cX14_isWord : ByteArray := prog_16_method_18_code
def yX14_isWord : MethodName := ⟨RX14, "isWord", "(I)Z"⟩
abbrev cX14_isSign : ByteArray := prog_16_method_19_code
def yX14_isSign : MethodName := ⟨RX14, "isSign", "(I)Z"⟩
abbrev cX14_word : ByteArray := prog_16_method_20_code
def yX14_word : MethodName := ⟨RX14, "word", "(I)V"⟩
abbrev cX14_mark : ByteArray := prog_16_method_21_code
def yX14_mark : MethodName := ⟨RX14, "mark", "(I)V"⟩
abbrev cX14_claim : ByteArray := prog_16_method_22_code
def yX14_claim : MethodName := ⟨RX14, "claim", "(III)V"⟩
abbrev cX14_name : ByteArray := prog_16_method_23_code
def yX14_name : MethodName := ⟨RX14, "name", "()I"⟩
abbrev cX14_number : ByteArray := prog_16_method_24_code
def yX14_number : MethodName := ⟨RX14, "number", "(II)I"⟩
abbrev cX14_signed : ByteArray := prog_16_method_25_code
def yX14_signed : MethodName := ⟨RX14, "signed", "()I"⟩
abbrev cX14_begins : ByteArray := prog_16_method_26_code
def yX14_begins : MethodName := ⟨RX14, "begins", "(II)Z"⟩
abbrev cX14_codingStatement : ByteArray := prog_16_method_27_code
def yX14_codingStatement : MethodName := ⟨RX14, "codingStatement", "()V"⟩
abbrev cX14_layerStatement : ByteArray := prog_16_method_28_code
def yX14_layerStatement : MethodName := ⟨RX14, "layerStatement", "()V"⟩
abbrev cX14_serviceStatement : ByteArray := prog_16_method_29_code
def yX14_serviceStatement : MethodName := ⟨RX14, "serviceStatement", "(I)V"⟩
abbrev cX14_paramStatement : ByteArray := prog_16_method_30_code
def yX14_paramStatement : MethodName := ⟨RX14, "paramStatement", "(I)V"⟩
abbrev cX14_codeStatement : ByteArray := prog_16_method_31_code
def yX14_codeStatement : MethodName := ⟨RX14, "codeStatement", "()V"⟩
abbrev cX14_variantStatement : ByteArray := prog_16_method_32_code
def yX14_variantStatement : MethodName := ⟨RX14, "variantStatement", "()V"⟩
abbrev cX14_jobStatement : ByteArray := prog_16_method_33_code
def yX14_jobStatement : MethodName := ⟨RX14, "jobStatement", "()V"⟩
abbrev cX14_addOp : ByteArray := prog_16_method_34_code
def yX14_addOp : MethodName := ⟨RX14, "addOp", "(IIII)V"⟩
abbrev cX14_op : ByteArray := prog_16_method_35_code
def yX14_op : MethodName := ⟨RX14, "op", "(I)V"⟩
abbrev cX14_statement : ByteArray := prog_16_method_36_code
def yX14_statement : MethodName := ⟨RX14, "statement", "()V"⟩
abbrev cX14_readInto : ByteArray := prog_16_method_37_code
def yX14_readInto : MethodName := ⟨RX14, "readInto", "([III)I"⟩
abbrev cX14_firstWrong : ByteArray := prog_16_method_38_code
def yX14_firstWrong : MethodName := ⟨RX14, "firstWrong", "()I"⟩
abbrev cX14_isWrong : ByteArray := prog_16_method_39_code
def yX14_isWrong : MethodName := ⟨RX14, "isWrong", "(III)Z"⟩
abbrev cX14_isRing : ByteArray := prog_16_method_40_code
def yX14_isRing : MethodName := ⟨RX14, "isRing", "(I)Z"⟩
abbrev cX14_read : ByteArray := prog_16_method_41_code
def yX14_read : MethodName := ⟨RX14, "read", "()I"⟩
abbrev cX14_ring : ByteArray := prog_16_method_42_code
def yX14_ring : MethodName := ⟨RX14, "ring", "(I)I"⟩
abbrev cX14_isService : ByteArray := prog_16_method_43_code
def yX14_isService : MethodName := ⟨RX14, "isService", "(I)Z"⟩
abbrev cX14_isParam : ByteArray := prog_16_method_44_code
def yX14_isParam : MethodName := ⟨RX14, "isParam", "(II)Z"⟩
abbrev cX14_service : ByteArray := prog_16_method_45_code
def yX14_service : MethodName := ⟨RX14, "service", "(II)I"⟩
abbrev cX14_parameter : ByteArray := prog_16_method_46_code
def yX14_parameter : MethodName := ⟨RX14, "parameter", "(III)I"⟩
abbrev cX14_octet : ByteArray := prog_16_method_47_code
def yX14_octet : MethodName := ⟨RX14, "octet", "(B)V"⟩
abbrev cX14_groups : ByteArray := prog_16_method_48_code
def yX14_groups : MethodName := ⟨RX14, "groups", "(II)I"⟩
abbrev cX14_find : ByteArray := prog_16_method_49_code
def yX14_find : MethodName := ⟨RX14, "find", "(I[IIZ)I"⟩
abbrev cX14_common : ByteArray := prog_16_method_50_code
def yX14_common : MethodName := ⟨RX14, "common", "(JJ)J"⟩
abbrev cX14_above : ByteArray := prog_16_method_51_code
def yX14_above : MethodName := ⟨RX14, "above", "(IJ)J"⟩
abbrev cX14_below : ByteArray := prog_16_method_52_code
def yX14_below : MethodName := ⟨RX14, "below", "(I)I"⟩
abbrev cX14_decode : ByteArray := prog_16_method_53_code
def yX14_decode : MethodName := ⟨RX14, "decode", "(III)J"⟩
abbrev cX14_encode : ByteArray := prog_16_method_54_code
def yX14_encode : MethodName := ⟨RX14, "encode", "(IIJ)I"⟩
abbrev cX14_out : ByteArray := prog_16_method_55_code
def yX14_out : MethodName := ⟨RX14, "out", "(I)B"⟩
abbrev cX14_variant : ByteArray := prog_16_method_56_code
def yX14_variant : MethodName := ⟨RX14, "variant", "(I)I"⟩
abbrev cX14_floorValue : ByteArray := prog_16_method_57_code
def yX14_floorValue : MethodName := ⟨RX14, "floorValue", "(I)J"⟩
abbrev cX14_job : ByteArray := prog_16_method_58_code
def yX14_job : MethodName := ⟨RX14, "job", "(IJ)I"⟩
abbrev cX14_isNamed : ByteArray := prog_16_method_59_code
def yX14_isNamed : MethodName := ⟨RX14, "isNamed", "(II)Z"⟩
abbrev cX14_isCodingLike : ByteArray := prog_16_method_60_code
def yX14_isCodingLike : MethodName := ⟨RX14, "isCodingLike", "(II)Z"⟩
abbrev cX14_isLike : ByteArray := prog_16_method_61_code
def yX14_isLike : MethodName := ⟨RX14, "isLike", "(II)Z"⟩
abbrev cX14_compare : ByteArray := prog_16_method_62_code
def yX14_compare : MethodName := ⟨RX14, "compare", "(I)I"⟩
abbrev cX14_code : ByteArray := prog_16_method_63_code
def yX14_code : MethodName := ⟨RX14, "code", "(I)I"⟩
def RJx145de : String := "java/io/Serializable"
def TJx145de : u_T := fun k => match k with
  | _ => ("", "", "", false)
def tyJx145de : Nat → FieldType := fun k => match k with
  | _ => .int
theorem nmJx145de : ∀ a, a < 0 → ∀ b, b < 0 → a ≠ b → (TJx145de a).2.1 ≠ (TJx145de b).2.1 := by decide +kernel
theorem tyJx145de_ok : ∀ k, k < 0 → parseFieldDescriptor (TJx145de k).2.2.1 = some (tyJx145de k) := by decide +kernel
def RJx00060 : String := "java/lang/ArrayIndexOutOfBoundsException"
def TJx00060 : u_T := fun k => match k with
  | 0 => ("java/lang/Throwable", "cause", "Ljava/lang/Throwable;", false)
  | 1 => ("java/lang/Throwable", "stackTrace", "[Ljava/lang/StackTraceElement;", false)
  | 2 => ("java/lang/Throwable", "suppressedExceptions", "Ljava/util/List;", false)
  | 3 => ("java/lang/Throwable", "detailMessage", "Ljava/lang/String;", false)
  | 4 => ("java/lang/Throwable", "backtrace", "Ljava/lang/Object;", false)
  | _ => ("java/lang/Throwable", "depth", "I", false)
def tyJx00060 : Nat → FieldType := fun k => match k with
  | 0 => .object "java/lang/Throwable"
  | 1 => .array (.object "java/lang/StackTraceElement")
  | 2 => .object "java/util/List"
  | 3 => .object "java/lang/String"
  | 4 => .object "java/lang/Object"
  | _ => .int
theorem nmJx00060 : ∀ a, a < 6 → ∀ b, b < 6 → a ≠ b → (TJx00060 a).2.1 ≠ (TJx00060 b).2.1 := by decide +kernel
theorem tyJx00060_ok : ∀ k, k < 6 → parseFieldDescriptor (TJx00060 k).2.2.1 = some (tyJx00060 k) := by decide +kernel
abbrev cJx00060_init_da8c8 : ByteArray := prog_18_method_1_code
def yJx00060_init_da8c8 : MethodName := ⟨RJx00060, "<init>", "()V"⟩
def RJx8e188 : String := "java/lang/Cloneable"
def TJx8e188 : u_T := fun k => match k with
  | _ => ("", "", "", false)
def tyJx8e188 : Nat → FieldType := fun k => match k with
  | _ => .int
theorem nmJx8e188 : ∀ a, a < 0 → ∀ b, b < 0 → a ≠ b → (TJx8e188 a).2.1 ≠ (TJx8e188 b).2.1 := by decide +kernel
theorem tyJx8e188_ok : ∀ k, k < 0 → parseFieldDescriptor (TJx8e188 k).2.2.1 = some (tyJx8e188 k) := by decide +kernel
def RJx29ce0 : String := "java/lang/Enum"
def TJx29ce0 : u_T := fun k => match k with
  | _ => ("", "", "", false)
def tyJx29ce0 : Nat → FieldType := fun k => match k with
  | _ => .int
theorem nmJx29ce0 : ∀ a, a < 0 → ∀ b, b < 0 → a ≠ b → (TJx29ce0 a).2.1 ≠ (TJx29ce0 b).2.1 := by decide +kernel
theorem tyJx29ce0_ok : ∀ k, k < 0 → parseFieldDescriptor (TJx29ce0 k).2.2.1 = some (tyJx29ce0 k) := by decide +kernel
abbrev cJx29ce0_ordinal_8abf5 : ByteArray := prog_20_method_2_code
def yJx29ce0_ordinal_8abf5 : MethodName := ⟨RJx29ce0, "ordinal", "()I"⟩
def RJxab1ab : String := "java/lang/Iterable"
def TJxab1ab : u_T := fun k => match k with
  | _ => ("", "", "", false)
def tyJxab1ab : Nat → FieldType := fun k => match k with
  | _ => .int
theorem nmJxab1ab : ∀ a, a < 0 → ∀ b, b < 0 → a ≠ b → (TJxab1ab a).2.1 ≠ (TJxab1ab b).2.1 := by decide +kernel
theorem tyJxab1ab_ok : ∀ k, k < 0 → parseFieldDescriptor (TJxab1ab k).2.2.1 = some (tyJxab1ab k) := by decide +kernel
def RJ9 : String := "java/lang/Math"
def TJ9 : u_T := fun k => match k with
  | _ => ("", "", "", false)
def tyJ9 : Nat → FieldType := fun k => match k with
  | _ => .int
theorem nmJ9 : ∀ a, a < 0 → ∀ b, b < 0 → a ≠ b → (TJ9 a).2.1 ≠ (TJ9 b).2.1 := by decide +kernel
theorem tyJ9_ok : ∀ k, k < 0 → parseFieldDescriptor (TJ9 k).2.2.1 = some (tyJ9 k) := by decide +kernel
abbrev cJ9_floorDiv_f86c9 : ByteArray := prog_24_method_49_code
def yJ9_floorDiv_f86c9 : MethodName := ⟨RJ9, "floorDiv", "(JJ)J"⟩
abbrev cJ9_abs_067f4 : ByteArray := prog_24_method_61_code
def yJ9_abs_067f4 : MethodName := ⟨RJ9, "abs", "(J)J"⟩
abbrev cJ9_max_7cf53 : ByteArray := prog_24_method_65_code
def yJ9_max_7cf53 : MethodName := ⟨RJ9, "max", "(II)I"⟩
abbrev cJ9_max_f86c9 : ByteArray := prog_24_method_66_code
def yJ9_max_f86c9 : MethodName := ⟨RJ9, "max", "(JJ)J"⟩
abbrev cJ9_min_7cf53 : ByteArray := prog_24_method_69_code
def yJ9_min_7cf53 : MethodName := ⟨RJ9, "min", "(II)I"⟩
abbrev cJ9_min_f86c9 : ByteArray := prog_24_method_70_code
def yJ9_min_f86c9 : MethodName := ⟨RJ9, "min", "(JJ)J"⟩
def RJ0 : String := "java/lang/String"
def TJ0 : u_T := fun k => match k with
  | _ => ("", "", "", false)
def tyJ0 : Nat → FieldType := fun k => match k with
  | _ => .int
theorem nmJ0 : ∀ a, a < 0 → ∀ b, b < 0 → a ≠ b → (TJ0 a).2.1 ≠ (TJ0 b).2.1 := by decide +kernel
theorem tyJ0_ok : ∀ k, k < 0 → parseFieldDescriptor (TJ0 k).2.2.1 = some (tyJ0 k) := by decide +kernel
abbrev cJ0_length_8abf5 : ByteArray := prog_26_method_54_code
def yJ0_length_8abf5 : MethodName := ⟨RJ0, "length", "()I"⟩
abbrev cJ0_charAt_5068e : ByteArray := prog_26_method_56_code
def yJ0_charAt_5068e : MethodName := ⟨RJ0, "charAt", "(I)C"⟩
abbrev cJ0_coder_7d493 : ByteArray := prog_26_method_152_code
def yJ0_coder_7d493 : MethodName := ⟨RJ0, "coder", "()B"⟩
abbrev cJ0_isLatin1_aae02 : ByteArray := prog_26_method_154_code
def yJ0_isLatin1_aae02 : MethodName := ⟨RJ0, "isLatin1", "()Z"⟩
abbrev cJ0_checkIndex_df160 : ByteArray := prog_26_method_155_code
def yJ0_checkIndex_df160 : MethodName := ⟨RJ0, "checkIndex", "(II)V"⟩
def RJ1 : String := "java/lang/StringLatin1"
def TJ1 : u_T := fun k => match k with
  | _ => ("", "", "", false)
def tyJ1 : Nat → FieldType := fun k => match k with
  | _ => .int
theorem nmJ1 : ∀ a, a < 0 → ∀ b, b < 0 → a ≠ b → (TJ1 a).2.1 ≠ (TJ1 b).2.1 := by decide +kernel
theorem tyJ1_ok : ∀ k, k < 0 → parseFieldDescriptor (TJ1 k).2.2.1 = some (tyJ1 k) := by decide +kernel
abbrev cJ1_charAt_3b067 : ByteArray := prog_27_method_2_code
def yJ1_charAt_3b067 : MethodName := ⟨RJ1, "charAt", "([BI)C"⟩
def RJ2 : String := "java/lang/StringUTF16"
def TJ2 : u_T := fun k => match k with
  | _ => ("", "", "", false)
def tyJ2 : Nat → FieldType := fun k => match k with
  | _ => .int
theorem nmJ2 : ∀ a, a < 0 → ∀ b, b < 0 → a ≠ b → (TJ2 a).2.1 ≠ (TJ2 b).2.1 := by decide +kernel
theorem tyJ2_ok : ∀ k, k < 0 → parseFieldDescriptor (TJ2 k).2.2.1 = some (tyJ2 k) := by decide +kernel
abbrev cJ2_getChar_3b067 : ByteArray := prog_28_method_5_code
def yJ2_getChar_3b067 : MethodName := ⟨RJ2, "getChar", "([BI)C"⟩
abbrev cJ2_length_9d52b : ByteArray := prog_28_method_6_code
def yJ2_length_9d52b : MethodName := ⟨RJ2, "length", "([B)I"⟩
abbrev cJ2_charAt_3b067 : ByteArray := prog_28_method_83_code
def yJ2_charAt_3b067 : MethodName := ⟨RJ2, "charAt", "([BI)C"⟩
abbrev cJ2_checkIndex_2214a : ByteArray := prog_28_method_91_code
def yJ2_checkIndex_2214a : MethodName := ⟨RJ2, "checkIndex", "(I[B)V"⟩
def RJ10 : String := "java/lang/System"
def TJ10 : u_T := fun k => match k with
  | _ => ("", "", "", false)
def tyJ10 : Nat → FieldType := fun k => match k with
  | _ => .int
theorem nmJ10 : ∀ a, a < 0 → ∀ b, b < 0 → a ≠ b → (TJ10 a).2.1 ≠ (TJ10 b).2.1 := by decide +kernel
theorem tyJ10_ok : ∀ k, k < 0 → parseFieldDescriptor (TJ10 k).2.2.1 = some (tyJ10 k) := by decide +kernel
def RJxa1e45 : String := "java/util/AbstractCollection"
def TJxa1e45 : u_T := fun k => match k with
  | _ => ("", "", "", false)
def tyJxa1e45 : Nat → FieldType := fun k => match k with
  | _ => .int
theorem nmJxa1e45 : ∀ a, a < 0 → ∀ b, b < 0 → a ≠ b → (TJxa1e45 a).2.1 ≠ (TJxa1e45 b).2.1 := by decide +kernel
theorem tyJxa1e45_ok : ∀ k, k < 0 → parseFieldDescriptor (TJxa1e45 k).2.2.1 = some (tyJxa1e45 k) := by decide +kernel
abbrev cJxa1e45_init_da8c8 : ByteArray := prog_31_method_1_code
def yJxa1e45_init_da8c8 : MethodName := ⟨RJxa1e45, "<init>", "()V"⟩
def RJxc12de : String := "java/util/AbstractList"
def TJxc12de : u_T := fun k => match k with
  | _ => ("", "", "", false)
def tyJxc12de : Nat → FieldType := fun k => match k with
  | _ => .int
theorem nmJxc12de : ∀ a, a < 0 → ∀ b, b < 0 → a ≠ b → (TJxc12de a).2.1 ≠ (TJxc12de b).2.1 := by decide +kernel
theorem tyJxc12de_ok : ∀ k, k < 0 → parseFieldDescriptor (TJxc12de k).2.2.1 = some (tyJxc12de k) := by decide +kernel
abbrev cJxc12de_init_da8c8 : ByteArray := prog_32_method_1_code
def yJxc12de_init_da8c8 : MethodName := ⟨RJxc12de, "<init>", "()V"⟩
def RJx4a65c : String := "java/util/ArrayList"
def TJx4a65c : u_T := fun k => match k with
  | 0 => ("java/util/AbstractList", "modCount", "I", false)
  | 1 => ("java/util/ArrayList", "elementData", "[Ljava/lang/Object;", false)
  | _ => ("java/util/ArrayList", "size", "I", false)
def tyJx4a65c : Nat → FieldType := fun k => match k with
  | 0 => .int
  | 1 => .array (.object "java/lang/Object")
  | _ => .int
theorem nmJx4a65c : ∀ a, a < 3 → ∀ b, b < 3 → a ≠ b → (TJx4a65c a).2.1 ≠ (TJx4a65c b).2.1 := by decide +kernel
theorem tyJx4a65c_ok : ∀ k, k < 3 → parseFieldDescriptor (TJx4a65c k).2.2.1 = some (tyJx4a65c k) := by decide +kernel
abbrev cJx4a65c_init_da8c8 : ByteArray := prog_33_method_2_code
def yJx4a65c_init_da8c8 : MethodName := ⟨RJx4a65c, "<init>", "()V"⟩
abbrev cJx4a65c_grow_92f84 : ByteArray := prog_33_method_6_code
def yJx4a65c_grow_92f84 : MethodName := ⟨RJx4a65c, "grow", "(I)[Ljava/lang/Object;"⟩
abbrev cJx4a65c_grow_d5877 : ByteArray := prog_33_method_7_code
def yJx4a65c_grow_d5877 : MethodName := ⟨RJx4a65c, "grow", "()[Ljava/lang/Object;"⟩
abbrev cJx4a65c_size_8abf5 : ByteArray := prog_33_method_8_code
def yJx4a65c_size_8abf5 : MethodName := ⟨RJx4a65c, "size", "()I"⟩
abbrev cJx4a65c_isEmpty_aae02 : ByteArray := prog_33_method_9_code
def yJx4a65c_isEmpty_aae02 : MethodName := ⟨RJx4a65c, "isEmpty", "()Z"⟩
abbrev cJx4a65c_elementData_915e3 : ByteArray := prog_33_method_18_code
def yJx4a65c_elementData_915e3 : MethodName := ⟨RJx4a65c, "elementData", "(I)Ljava/lang/Object;"⟩
abbrev cJx4a65c_get_915e3 : ByteArray := prog_33_method_20_code
def yJx4a65c_get_915e3 : MethodName := ⟨RJx4a65c, "get", "(I)Ljava/lang/Object;"⟩
abbrev cJx4a65c_add_72be8 : ByteArray := prog_33_method_24_code
def yJx4a65c_add_72be8 : MethodName := ⟨RJx4a65c, "add", "(Ljava/lang/Object;[Ljava/lang/Object;I)V"⟩
abbrev cJx4a65c_add_9ea2d : ByteArray := prog_33_method_25_code
def yJx4a65c_add_9ea2d : MethodName := ⟨RJx4a65c, "add", "(Ljava/lang/Object;)Z"⟩
def RJ7 : String := "java/util/Arrays"
def TJ7 : u_T := fun k => match k with
  | _ => ("", "", "", false)
def tyJ7 : Nat → FieldType := fun k => match k with
  | _ => .int
theorem nmJ7 : ∀ a, a < 0 → ∀ b, b < 0 → a ≠ b → (TJ7 a).2.1 ≠ (TJ7 b).2.1 := by decide +kernel
theorem tyJ7_ok : ∀ k, k < 0 → parseFieldDescriptor (TJ7 k).2.2.1 = some (tyJ7 k) := by decide +kernel
abbrev cJ7_copyOf_1904c : ByteArray := prog_34_method_119_code
def yJ7_copyOf_1904c : MethodName := ⟨RJ7, "copyOf", "([Ljava/lang/Object;I)[Ljava/lang/Object;"⟩
abbrev cJ7_copyOf_6403c : ByteArray := prog_34_method_120_code
def yJ7_copyOf_6403c : MethodName := ⟨RJ7, "copyOf", "([Ljava/lang/Object;ILjava/lang/Class;)[Ljava/lang/Object;"⟩
abbrev cJ7_copyOf_c38d5 : ByteArray := prog_34_method_124_code
def yJ7_copyOf_c38d5 : MethodName := ⟨RJ7, "copyOf", "([JI)[J"⟩
def RJx5ef63 : String := "java/util/Collection"
def TJx5ef63 : u_T := fun k => match k with
  | _ => ("", "", "", false)
def tyJx5ef63 : Nat → FieldType := fun k => match k with
  | _ => .int
theorem nmJx5ef63 : ∀ a, a < 0 → ∀ b, b < 0 → a ≠ b → (TJx5ef63 a).2.1 ≠ (TJx5ef63 b).2.1 := by decide +kernel
theorem tyJx5ef63_ok : ∀ k, k < 0 → parseFieldDescriptor (TJx5ef63 k).2.2.1 = some (tyJx5ef63 k) := by decide +kernel
def RJxbd725 : String := "java/util/List"
def TJxbd725 : u_T := fun k => match k with
  | _ => ("", "", "", false)
def tyJxbd725 : Nat → FieldType := fun k => match k with
  | _ => .int
theorem nmJxbd725 : ∀ a, a < 0 → ∀ b, b < 0 → a ≠ b → (TJxbd725 a).2.1 ≠ (TJxbd725 b).2.1 := by decide +kernel
theorem tyJxbd725_ok : ∀ k, k < 0 → parseFieldDescriptor (TJxbd725 k).2.2.1 = some (tyJxbd725 k) := by decide +kernel
def RJ15 : String := "java/util/Objects"
def TJ15 : u_T := fun k => match k with
  | _ => ("", "", "", false)
def tyJ15 : Nat → FieldType := fun k => match k with
  | _ => .int
theorem nmJ15 : ∀ a, a < 0 → ∀ b, b < 0 → a ≠ b → (TJ15 a).2.1 ≠ (TJ15 b).2.1 := by decide +kernel
theorem tyJ15_ok : ∀ k, k < 0 → parseFieldDescriptor (TJ15 k).2.2.1 = some (tyJ15 k) := by decide +kernel
abbrev cJ15_checkIndex_7cf53 : ByteArray := prog_37_method_17_code
def yJ15_checkIndex_7cf53 : MethodName := ⟨RJ15, "checkIndex", "(II)I"⟩
def RJxf0a74 : String := "java/util/RandomAccess"
def TJxf0a74 : u_T := fun k => match k with
  | _ => ("", "", "", false)
def tyJxf0a74 : Nat → FieldType := fun k => match k with
  | _ => .int
theorem nmJxf0a74 : ∀ a, a < 0 → ∀ b, b < 0 → a ≠ b → (TJxf0a74 a).2.1 ≠ (TJxf0a74 b).2.1 := by decide +kernel
theorem tyJxf0a74_ok : ∀ k, k < 0 → parseFieldDescriptor (TJxf0a74 k).2.2.1 = some (tyJxf0a74 k) := by decide +kernel
def RJxa66e6 : String := "java/util/SequencedCollection"
def TJxa66e6 : u_T := fun k => match k with
  | _ => ("", "", "", false)
def tyJxa66e6 : Nat → FieldType := fun k => match k with
  | _ => .int
theorem nmJxa66e6 : ∀ a, a < 0 → ∀ b, b < 0 → a ≠ b → (TJxa66e6 a).2.1 ≠ (TJxa66e6 b).2.1 := by decide +kernel
theorem tyJxa66e6_ok : ∀ k, k < 0 → parseFieldDescriptor (TJxa66e6 k).2.2.1 = some (tyJxa66e6 k) := by decide +kernel
def RJ8 : String := "jdk/internal/util/ArraysSupport"
def TJ8 : u_T := fun k => match k with
  | _ => ("", "", "", false)
def tyJ8 : Nat → FieldType := fun k => match k with
  | _ => .int
theorem nmJ8 : ∀ a, a < 0 → ∀ b, b < 0 → a ≠ b → (TJ8 a).2.1 ≠ (TJ8 b).2.1 := by decide +kernel
theorem tyJ8_ok : ∀ k, k < 0 → parseFieldDescriptor (TJ8 k).2.2.1 = some (tyJ8 k) := by decide +kernel
abbrev cJ8_newLength_cabcc : ByteArray := prog_40_method_27_code
def yJ8_newLength_cabcc : MethodName := ⟨RJ8, "newLength", "(III)I"⟩
abbrev cJ8_hugeLength_7cf53 : ByteArray := prog_40_method_28_code
def yJ8_hugeLength_7cf53 : MethodName := ⟨RJ8, "hugeLength", "(II)I"⟩
def RJ3 : String := "jdk/internal/util/Preconditions"
def TJ3 : u_T := fun k => match k with
  | _ => ("", "", "", false)
def tyJ3 : Nat → FieldType := fun k => match k with
  | _ => .int
theorem nmJ3 : ∀ a, a < 0 → ∀ b, b < 0 → a ≠ b → (TJ3 a).2.1 ≠ (TJ3 b).2.1 := by decide +kernel
theorem tyJ3_ok : ∀ k, k < 0 → parseFieldDescriptor (TJ3 k).2.2.1 = some (tyJ3 k) := by decide +kernel
abbrev cJ3_checkIndex_8e157 : ByteArray := prog_41_method_11_code
def yJ3_checkIndex_8e157 : MethodName := ⟨RJ3, "checkIndex", "(IILjava/util/function/BiFunction;)I"⟩
def RL : String := "DescribeTextLaw"
abbrev cL_out : ByteArray := method_3_code
def yL_out : MethodName := ⟨RL, "out", "(LDescribeText;I[J)I"⟩
abbrev cL_law : ByteArray := code
def yL_law : MethodName := ⟨RL, "law", "([I)Z"⟩
abbrev vwCl : List vw_C := [(RJx00060, TJx00060, 6), (RJx4a65c, TJx4a65c, 3), (RX1, TX1, 10), (RX2, TX2, 11), (RX3, TX3, 5), (RX4, TX4, 5), (RX5, TX5, 6), (RX6, TX6, 2), (RX7, TX7, 9), (RX8, TX8, 15), (RX9, TX9, 5), (RX10, TX10, 6), (RX11, TX11, 0), (RX12, TX12, 4), (RX13, TX13, 9), (RX14, TX14, 76)]
