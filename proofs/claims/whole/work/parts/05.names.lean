def RX1 : String := "DescribeText$Coding"
def TX1 : u_T := fun k => match k with
  | 0 => ("DescribeText$Coding", "number", "I", true)
  | 1 => ("DescribeText$Coding", "at", "I", true)
  | 2 => ("DescribeText$Coding", "name", "J", true)
  | 3 => ("DescribeText$Coding", "rows", "Ljava/util/ArrayList;", true)
  | 4 => ("DescribeText$Coding", "width", "I", false)
  | 5 => ("DescribeText$Coding", "signed", "Z", false)
  | 6 => ("DescribeText$Coding", "scaled", "Z", false)
  | 7 => ("DescribeText$Coding", "times", "J", false)
  | 8 => ("DescribeText$Coding", "over", "J", false)
  | _ => ("DescribeText$Coding", "plus", "J", false)
def RX2 : String := "DescribeText$Edition"
def TX2 : u_T := fun k => match k with
  | 0 => ("DescribeText$Edition", "codings", "Ljava/util/ArrayList;", true)
  | 1 => ("DescribeText$Edition", "layers", "Ljava/util/ArrayList;", true)
  | 2 => ("DescribeText$Edition", "services", "Ljava/util/ArrayList;", true)
  | 3 => ("DescribeText$Edition", "codes", "Ljava/util/ArrayList;", true)
  | 4 => ("DescribeText$Edition", "variants", "Ljava/util/ArrayList;", true)
  | 5 => ("DescribeText$Edition", "jobs", "Ljava/util/ArrayList;", true)
  | 6 => ("DescribeText$Edition", "names", "[J", false)
  | 7 => ("DescribeText$Edition", "nameCount", "I", false)
  | 8 => ("DescribeText$Edition", "inUse", "LDescribeText$Layer;", false)
  | 9 => ("DescribeText$Edition", "wrongAt", "I", false)
  | _ => ("DescribeText$Edition", "ringStart", "LDescribeText$Layer;", false)
def RX3 : String := "DescribeText$Entry"
def TX3 : u_T := fun k => match k with
  | 0 => ("DescribeText$Entry", "z", "I", false)
  | 1 => ("DescribeText$Entry", "zAt", "I", false)
  | 2 => ("DescribeText$Entry", "name", "J", false)
  | 3 => ("DescribeText$Entry", "nameAt", "I", false)
  | _ => ("DescribeText$Entry", "layer", "LDescribeText$Layer;", false)
def RX4 : String := "DescribeText$Job"
def TX4 : u_T := fun k => match k with
  | 0 => ("DescribeText$Job", "at", "I", true)
  | 1 => ("DescribeText$Job", "name", "J", true)
  | 2 => ("DescribeText$Job", "ops", "Ljava/util/ArrayList;", true)
  | 3 => ("DescribeText$Job", "pile", "[J", true)
  | _ => ("DescribeText$Job", "height", "I", false)
def RX5 : String := "DescribeText$Layer"
def TX5 : u_T := fun k => match k with
  | 0 => ("DescribeText$Layer", "number", "I", true)
  | 1 => ("DescribeText$Layer", "at", "I", true)
  | 2 => ("DescribeText$Layer", "name", "J", true)
  | 3 => ("DescribeText$Layer", "ofName", "J", false)
  | 4 => ("DescribeText$Layer", "ofAt", "I", false)
  | _ => ("DescribeText$Layer", "of", "LDescribeText$Layer;", false)
def RX6 : String := "DescribeText$Octets"
def TX6 : u_T := fun k => match k with
  | 0 => ("DescribeText$Octets", "row", "[B", true)
  | _ => ("DescribeText$Octets", "length", "I", false)
def tyX6 : Nat → FieldType := fun k => match k with
  | 0 => .array .byte
  | _ => .int
theorem nmX6 : ∀ a, a < 2 → ∀ b, b < 2 → a ≠ b → (TX6 a).2.1 ≠ (TX6 b).2.1 := by decide +kernel
theorem tyX6_ok : ∀ k, k < 2 → parseFieldDescriptor (TX6 k).2.2.1 = some (tyX6 k) := by decide +kernel
abbrev cX6_init : ByteArray := prog_8_method_1_code
def yX6_init : MethodName := ⟨RX6, "<init>", "()V"⟩
abbrev cX6_add : ByteArray := prog_8_method_2_code
def yX6_add : MethodName := ⟨RX6, "add", "(I)V"⟩
abbrev cX6_at : ByteArray := prog_8_method_3_code
def yX6_at : MethodName := ⟨RX6, "at", "(I)I"⟩
def RX7 : String := "DescribeText$Op"
def TX7 : u_T := fun k => match k with
  | 0 => ("DescribeText$Op", "kind", "LDescribeText$Token;", true)
  | 1 => ("DescribeText$Op", "number", "J", false)
  | 2 => ("DescribeText$Op", "serviceName", "J", false)
  | 3 => ("DescribeText$Op", "serviceAt", "I", false)
  | 4 => ("DescribeText$Op", "from", "LDescribeText$Service;", false)
  | 5 => ("DescribeText$Op", "parameterName", "J", false)
  | 6 => ("DescribeText$Op", "parameterAt", "I", false)
  | 7 => ("DescribeText$Op", "what", "LDescribeText$Parameter;", false)
  | _ => ("DescribeText$Op", "target", "I", false)
def RX8 : String := "DescribeText$Parameter"
def TX8 : u_T := fun k => match k with
  | 0 => ("DescribeText$Parameter", "number", "I", true)
  | 1 => ("DescribeText$Parameter", "at", "I", true)
  | 2 => ("DescribeText$Parameter", "name", "J", true)
  | 3 => ("DescribeText$Parameter", "codingName", "J", false)
  | 4 => ("DescribeText$Parameter", "codingAt", "I", false)
  | 5 => ("DescribeText$Parameter", "coding", "LDescribeText$Coding;", false)
  | 6 => ("DescribeText$Parameter", "kind", "I", false)
  | 7 => ("DescribeText$Parameter", "earlierName", "J", false)
  | 8 => ("DescribeText$Parameter", "earlierAt", "I", false)
  | 9 => ("DescribeText$Parameter", "earlier", "LDescribeText$Parameter;", false)
  | 10 => ("DescribeText$Parameter", "z", "I", false)
  | 11 => ("DescribeText$Parameter", "place", "I", false)
  | 12 => ("DescribeText$Parameter", "size", "I", false)
  | 13 => ("DescribeText$Parameter", "raw", "J", false)
  | _ => ("DescribeText$Parameter", "remembered", "J", false)
def RX9 : String := "DescribeText$Reader"
def TX9 : u_T := fun k => match k with
  | 0 => ("DescribeText$Reader", "tokens", "LDescribeText$Tokens;", true)
  | 1 => ("DescribeText$Reader", "openWhiles", "[I", true)
  | 2 => ("DescribeText$Reader", "edition", "LDescribeText$Edition;", false)
  | 3 => ("DescribeText$Reader", "place", "I", false)
  | _ => ("DescribeText$Reader", "faultAt", "I", false)
def tyX9 : Nat → FieldType := fun k => match k with
  | 0 => .object "DescribeText$Tokens"
  | 1 => .array .int
  | 2 => .object "DescribeText$Edition"
  | 3 => .int
  | _ => .int
theorem nmX9 : ∀ a, a < 5 → ∀ b, b < 5 → a ≠ b → (TX9 a).2.1 ≠ (TX9 b).2.1 := by decide +kernel
theorem tyX9_ok : ∀ k, k < 5 → parseFieldDescriptor (TX9 k).2.2.1 = some (tyX9 k) := by decide +kernel
abbrev cX9_init : ByteArray := prog_11_method_1_code
def yX9_init : MethodName := ⟨RX9, "<init>", "()V"⟩
def RX10 : String := "DescribeText$Service"
def TX10 : u_T := fun k => match k with
  | 0 => ("DescribeText$Service", "number", "I", true)
  | 1 => ("DescribeText$Service", "layer", "LDescribeText$Layer;", true)
  | 2 => ("DescribeText$Service", "at", "I", true)
  | 3 => ("DescribeText$Service", "name", "J", true)
  | 4 => ("DescribeText$Service", "parameters", "Ljava/util/ArrayList;", true)
  | _ => ("DescribeText$Service", "z", "I", false)
def RX11 : String := "DescribeText$Token"
def TX11 : u_T := fun k => match k with
  | _ => ("", "", "", false)
def RX12 : String := "DescribeText$Tokens"
def TX12 : u_T := fun k => match k with
  | 0 => ("DescribeText$Tokens", "kinds", "[LDescribeText$Token;", true)
  | 1 => ("DescribeText$Tokens", "starts", "[I", true)
  | 2 => ("DescribeText$Tokens", "values", "[J", true)
  | _ => ("DescribeText$Tokens", "count", "I", false)
def tyX12 : Nat → FieldType := fun k => match k with
  | 0 => .array (.object "DescribeText$Token")
  | 1 => .array .int
  | 2 => .array .long
  | _ => .int
theorem nmX12 : ∀ a, a < 4 → ∀ b, b < 4 → a ≠ b → (TX12 a).2.1 ≠ (TX12 b).2.1 := by decide +kernel
theorem tyX12_ok : ∀ k, k < 4 → parseFieldDescriptor (TX12 k).2.2.1 = some (tyX12 k) := by decide +kernel
abbrev cX12_init : ByteArray := prog_14_method_1_code
def yX12_init : MethodName := ⟨RX12, "<init>", "()V"⟩
def RX13 : String := "DescribeText"
def TX13 : u_T := fun k => match k with
  | 0 => ("DescribeText", "text", "[B", true)
  | 1 => ("DescribeText", "reader", "LDescribeText$Reader;", true)
  | 2 => ("DescribeText", "told", "LDescribeText$Octets;", true)
  | 3 => ("DescribeText", "sent", "LDescribeText$Octets;", true)
  | 4 => ("DescribeText", "kept", "[LDescribeText$Edition;", true)
  | 5 => ("DescribeText", "textLength", "I", false)
  | 6 => ("DescribeText", "keptCount", "I", false)
  | 7 => ("DescribeText", "hand", "LDescribeText$Edition;", false)
  | _ => ("DescribeText", "ringStart", "LDescribeText$Layer;", false)
def tyX13 : Nat → FieldType := fun k => match k with
  | 0 => .array .byte
  | 1 => .object "DescribeText$Reader"
  | 2 => .object "DescribeText$Octets"
  | 3 => .object "DescribeText$Octets"
  | 4 => .array (.object "DescribeText$Edition")
  | 5 => .int
  | 6 => .int
  | 7 => .object "DescribeText$Edition"
  | _ => .object "DescribeText$Layer"
theorem nmX13 : ∀ a, a < 9 → ∀ b, b < 9 → a ≠ b → (TX13 a).2.1 ≠ (TX13 b).2.1 := by decide +kernel
theorem tyX13_ok : ∀ k, k < 9 → parseFieldDescriptor (TX13 k).2.2.1 = some (tyX13 k) := by decide +kernel
abbrev cX13_init : ByteArray := prog_1_method_1_code
def yX13_init : MethodName := ⟨RX13, "<init>", "()V"⟩
abbrev cX13_sign : ByteArray := prog_1_method_2_code
def yX13_sign : MethodName := ⟨RX13, "sign", "(I)V"⟩
abbrev cX13_service : ByteArray := prog_1_method_4_code
def yX13_service : MethodName := ⟨RX13, "service", "(II)I"⟩
abbrev cX13_parameter : ByteArray := prog_1_method_5_code
def yX13_parameter : MethodName := ⟨RX13, "parameter", "(III)I"⟩
abbrev cX13_decode : ByteArray := prog_1_method_6_code
def yX13_decode : MethodName := ⟨RX13, "decode", "(III)J"⟩
abbrev cX13_octet : ByteArray := prog_1_method_7_code
def yX13_octet : MethodName := ⟨RX13, "octet", "(B)V"⟩
abbrev cX13_encode : ByteArray := prog_1_method_8_code
def yX13_encode : MethodName := ⟨RX13, "encode", "(IIJ)I"⟩
abbrev cX13_variant : ByteArray := prog_1_method_10_code
def yX13_variant : MethodName := ⟨RX13, "variant", "(I)I"⟩
abbrev cX13_job : ByteArray := prog_1_method_11_code
def yX13_job : MethodName := ⟨RX13, "job", "(IJ)I"⟩
abbrev cX13_ring : ByteArray := prog_1_method_12_code
def yX13_ring : MethodName := ⟨RX13, "ring", "(I)I"⟩
abbrev cX13_compare : ByteArray := prog_1_method_13_code
def yX13_compare : MethodName := ⟨RX13, "compare", "(I)I"⟩
abbrev cX13_code : ByteArray := prog_1_method_14_code
def yX13_code : MethodName := ⟨RX13, "code", "(I)I"⟩
abbrev cX13_serviceNumbered : ByteArray := prog_1_method_17_code
def yX13_serviceNumbered : MethodName := ⟨RX13, "serviceNumbered", "(I)LDescribeText$Service;"⟩
abbrev cX13_parameterNumbered : ByteArray := prog_1_method_18_code
def yX13_parameterNumbered : MethodName := ⟨RX13, "parameterNumbered", "(LDescribeText$Service;I)LDescribeText$Parameter;"⟩
def RX14 : String := "DescribeTextModel"
def TX14 : u_T := fun k => match k with
  | 0 => ("DescribeTextModel", "names", "[I", true)
  | 1 => ("DescribeTextModel", "codings", "[I", true)
  | 2 => ("DescribeTextModel", "layers", "[I", true)
  | 3 => ("DescribeTextModel", "services", "[I", true)
  | 4 => ("DescribeTextModel", "codes", "[I", true)
  | 5 => ("DescribeTextModel", "variants", "[I", true)
  | 6 => ("DescribeTextModel", "jobs", "[I", true)
  | 7 => ("DescribeTextModel", "nameLength", "[I", true)
  | 8 => ("DescribeTextModel", "nameOctets", "[I", true)
  | 9 => ("DescribeTextModel", "codingName", "[I", true)
  | 10 => ("DescribeTextModel", "octets", "[I", true)
  | 11 => ("DescribeTextModel", "form", "[I", true)
  | 12 => ("DescribeTextModel", "up", "[I", true)
  | 13 => ("DescribeTextModel", "down", "[I", true)
  | 14 => ("DescribeTextModel", "more", "[I", true)
  | 15 => ("DescribeTextModel", "rows", "[I", true)
  | 16 => ("DescribeTextModel", "rowZ", "[I", true)
  | 17 => ("DescribeTextModel", "rowName", "[I", true)
  | 18 => ("DescribeTextModel", "layerName", "[I", true)
  | 19 => ("DescribeTextModel", "layerOf", "[I", true)
  | 20 => ("DescribeTextModel", "serviceName", "[I", true)
  | 21 => ("DescribeTextModel", "serviceZ", "[I", true)
  | 22 => ("DescribeTextModel", "serviceLayer", "[I", true)
  | 23 => ("DescribeTextModel", "params", "[I", true)
  | 24 => ("DescribeTextModel", "paramName", "[I", true)
  | 25 => ("DescribeTextModel", "paramCoding", "[I", true)
  | 26 => ("DescribeTextModel", "paramKind", "[I", true)
  | 27 => ("DescribeTextModel", "paramOther", "[I", true)
  | 28 => ("DescribeTextModel", "paramZ", "[I", true)
  | 29 => ("DescribeTextModel", "codeZ", "[I", true)
  | 30 => ("DescribeTextModel", "codeName", "[I", true)
  | 31 => ("DescribeTextModel", "variantLayer", "[I", true)
  | 32 => ("DescribeTextModel", "variantZ", "[I", true)
  | 33 => ("DescribeTextModel", "jobName", "[I", true)
  | 34 => ("DescribeTextModel", "ops", "[I", true)
  | 35 => ("DescribeTextModel", "opKind", "[I", true)
  | 36 => ("DescribeTextModel", "opA", "[I", true)
  | 37 => ("DescribeTextModel", "opB", "[I", true)
  | 38 => ("DescribeTextModel", "thrown", "I", false)
  | 39 => ("DescribeTextModel", "size", "I", false)
  | 40 => ("DescribeTextModel", "text", "[I", true)
  | 41 => ("DescribeTextModel", "draft", "I", false)
  | 42 => ("DescribeTextModel", "book", "I", false)
  | 43 => ("DescribeTextModel", "inHand", "Z", false)
  | 44 => ("DescribeTextModel", "editions", "I", false)
  | 45 => ("DescribeTextModel", "keptSize", "[I", true)
  | 46 => ("DescribeTextModel", "kept", "[I", true)
  | 47 => ("DescribeTextModel", "source", "[I", false)
  | 48 => ("DescribeTextModel", "sourceFrom", "I", false)
  | 49 => ("DescribeTextModel", "sourceEnd", "I", false)
  | 50 => ("DescribeTextModel", "at", "I", false)
  | 51 => ("DescribeTextModel", "line", "I", false)
  | 52 => ("DescribeTextModel", "kind", "I", false)
  | 53 => ("DescribeTextModel", "value", "I", false)
  | 54 => ("DescribeTextModel", "tokenLine", "I", false)
  | 55 => ("DescribeTextModel", "good", "Z", false)
  | 56 => ("DescribeTextModel", "jobOps", "I", false)
  | 57 => ("DescribeTextModel", "deep", "I", false)
  | 58 => ("DescribeTextModel", "claims", "I", false)
  | 59 => ("DescribeTextModel", "claimKind", "[I", true)
  | 60 => ("DescribeTextModel", "claimLine", "[I", true)
  | 61 => ("DescribeTextModel", "claimA", "[I", true)
  | 62 => ("DescribeTextModel", "claimB", "[I", true)
  | 63 => ("DescribeTextModel", "rings", "I", false)
  | 64 => ("DescribeTextModel", "ring", "[I", true)
  | 65 => ("DescribeTextModel", "answer", "[I", true)
  | 66 => ("DescribeTextModel", "answerSize", "I", false)
  | 67 => ("DescribeTextModel", "sent", "[I", true)
  | 68 => ("DescribeTextModel", "sentSize", "I", false)
  | 69 => ("DescribeTextModel", "inUse", "I", false)
  | 70 => ("DescribeTextModel", "raws", "[J", true)
  | 71 => ("DescribeTextModel", "there", "[Z", true)
  | 72 => ("DescribeTextModel", "place", "[I", true)
  | 73 => ("DescribeTextModel", "length", "[I", true)
  | 74 => ("DescribeTextModel", "raw", "[J", true)
  | _ => ("DescribeTextModel", "pile", "[J", true)
def RJx00060 : String := "java/lang/ArrayIndexOutOfBoundsException"
def TJx00060 : u_T := fun k => match k with
  | 0 => ("java/lang/Throwable", "cause", "Ljava/lang/Throwable;", false)
  | 1 => ("java/lang/Throwable", "stackTrace", "[Ljava/lang/StackTraceElement;", false)
  | 2 => ("java/lang/Throwable", "suppressedExceptions", "Ljava/util/List;", false)
  | 3 => ("java/lang/Throwable", "detailMessage", "Ljava/lang/String;", false)
  | 4 => ("java/lang/Throwable", "backtrace", "Ljava/lang/Object;", false)
  | _ => ("java/lang/Throwable", "depth", "I", false)
def RJx4a65c : String := "java/util/ArrayList"
def TJx4a65c : u_T := fun k => match k with
  | 0 => ("java/util/AbstractList", "modCount", "I", false)
  | 1 => ("java/util/ArrayList", "elementData", "[Ljava/lang/Object;", false)
  | _ => ("java/util/ArrayList", "size", "I", false)
theorem dX6_init_0 : decode cX6_init 0 = .ok (.aload_n 0, 1) := by decide +kernel
theorem dX6_init_1 : decode cX6_init 1 = .ok (.invokespecial 3, 3) := by decide +kernel
theorem dX6_init_4 : decode cX6_init 4 = .ok (.aload_n 0, 1) := by decide +kernel
theorem dX6_init_5 : decode cX6_init 5 = .ok (.bipush 64, 2) := by decide +kernel
theorem dX6_init_7 : decode cX6_init 7 = .ok (.newarray .byte, 2) := by decide +kernel
theorem dX6_init_9 : decode cX6_init 9 = .ok (.putfield 9, 3) := by decide +kernel
theorem dX6_init_12 : decode cX6_init 12 = .ok (.return_, 1) := by decide +kernel
theorem dX6_add_0 : decode cX6_add 0 = .ok (.aload_n 0, 1) := by decide +kernel
theorem dX6_add_1 : decode cX6_add 1 = .ok (.getfield 15, 3) := by decide +kernel
theorem dX6_add_4 : decode cX6_add 4 = .ok (.ifCond .lt 36, 3) := by decide +kernel
theorem dX6_add_7 : decode cX6_add 7 = .ok (.aload_n 0, 1) := by decide +kernel
theorem dX6_add_8 : decode cX6_add 8 = .ok (.getfield 15, 3) := by decide +kernel
theorem dX6_add_11 : decode cX6_add 11 = .ok (.aload_n 0, 1) := by decide +kernel
theorem dX6_add_12 : decode cX6_add 12 = .ok (.getfield 9, 3) := by decide +kernel
theorem dX6_add_15 : decode cX6_add 15 = .ok (.arraylength, 1) := by decide +kernel
theorem dX6_add_16 : decode cX6_add 16 = .ok (.if_icmp .ge 24, 3) := by decide +kernel
theorem dX6_add_19 : decode cX6_add 19 = .ok (.aload_n 0, 1) := by decide +kernel
theorem dX6_add_20 : decode cX6_add 20 = .ok (.getfield 9, 3) := by decide +kernel
theorem dX6_add_23 : decode cX6_add 23 = .ok (.aload_n 0, 1) := by decide +kernel
theorem dX6_add_24 : decode cX6_add 24 = .ok (.getfield 15, 3) := by decide +kernel
theorem dX6_add_27 : decode cX6_add 27 = .ok (.iload_n 1, 1) := by decide +kernel
theorem dX6_add_28 : decode cX6_add 28 = .ok (.i2b, 1) := by decide +kernel
theorem dX6_add_29 : decode cX6_add 29 = .ok (.bastore, 1) := by decide +kernel
theorem dX6_add_30 : decode cX6_add 30 = .ok (.aload_n 0, 1) := by decide +kernel
theorem dX6_add_31 : decode cX6_add 31 = .ok (.dup, 1) := by decide +kernel
theorem dX6_add_32 : decode cX6_add 32 = .ok (.getfield 15, 3) := by decide +kernel
theorem dX6_add_35 : decode cX6_add 35 = .ok (.iconst 1, 1) := by decide +kernel
theorem dX6_add_36 : decode cX6_add 36 = .ok (.iadd, 1) := by decide +kernel
theorem dX6_add_37 : decode cX6_add 37 = .ok (.putfield 15, 3) := by decide +kernel
theorem dX6_add_40 : decode cX6_add 40 = .ok (.return_, 1) := by decide +kernel
theorem dX6_at_0 : decode cX6_at 0 = .ok (.iload_n 1, 1) := by decide +kernel
theorem dX6_at_1 : decode cX6_at 1 = .ok (.ifCond .lt 20, 3) := by decide +kernel
theorem dX6_at_4 : decode cX6_at 4 = .ok (.iload_n 1, 1) := by decide +kernel
theorem dX6_at_5 : decode cX6_at 5 = .ok (.aload_n 0, 1) := by decide +kernel
theorem dX6_at_6 : decode cX6_at 6 = .ok (.getfield 15, 3) := by decide +kernel
theorem dX6_at_9 : decode cX6_at 9 = .ok (.if_icmp .ge 12, 3) := by decide +kernel
theorem dX6_at_12 : decode cX6_at 12 = .ok (.iload_n 1, 1) := by decide +kernel
theorem dX6_at_13 : decode cX6_at 13 = .ok (.aload_n 0, 1) := by decide +kernel
theorem dX6_at_14 : decode cX6_at 14 = .ok (.getfield 9, 3) := by decide +kernel
theorem dX6_at_17 : decode cX6_at 17 = .ok (.arraylength, 1) := by decide +kernel
theorem dX6_at_18 : decode cX6_at 18 = .ok (.if_icmp .lt 7, 3) := by decide +kernel
theorem dX6_at_21 : decode cX6_at 21 = .ok (.iconst 0, 1) := by decide +kernel
theorem dX6_at_22 : decode cX6_at 22 = .ok (.goto 13, 3) := by decide +kernel
theorem dX6_at_25 : decode cX6_at 25 = .ok (.aload_n 0, 1) := by decide +kernel
theorem dX6_at_26 : decode cX6_at 26 = .ok (.getfield 9, 3) := by decide +kernel
theorem dX6_at_29 : decode cX6_at 29 = .ok (.iload_n 1, 1) := by decide +kernel
theorem dX6_at_30 : decode cX6_at 30 = .ok (.baload, 1) := by decide +kernel
theorem dX6_at_31 : decode cX6_at 31 = .ok (.sipush 255, 3) := by decide +kernel
theorem dX6_at_34 : decode cX6_at 34 = .ok (.iand, 1) := by decide +kernel
theorem dX6_at_35 : decode cX6_at 35 = .ok (.ireturn, 1) := by decide +kernel
theorem dX9_init_0 : decode cX9_init 0 = .ok (.aload_n 0, 1) := by decide +kernel
theorem dX9_init_1 : decode cX9_init 1 = .ok (.invokespecial 3, 3) := by decide +kernel
theorem dX9_init_4 : decode cX9_init 4 = .ok (.aload_n 0, 1) := by decide +kernel
theorem dX9_init_5 : decode cX9_init 5 = .ok (.new 9, 3) := by decide +kernel
theorem dX9_init_8 : decode cX9_init 8 = .ok (.dup, 1) := by decide +kernel
theorem dX9_init_9 : decode cX9_init 9 = .ok (.invokespecial 11, 3) := by decide +kernel
theorem dX9_init_12 : decode cX9_init 12 = .ok (.putfield 12, 3) := by decide +kernel
theorem dX9_init_15 : decode cX9_init 15 = .ok (.aload_n 0, 1) := by decide +kernel
theorem dX9_init_16 : decode cX9_init 16 = .ok (.iconst 3, 1) := by decide +kernel
theorem dX9_init_17 : decode cX9_init 17 = .ok (.newarray .int, 2) := by decide +kernel
theorem dX9_init_19 : decode cX9_init 19 = .ok (.putfield 18, 3) := by decide +kernel
theorem dX9_init_22 : decode cX9_init 22 = .ok (.return_, 1) := by decide +kernel
theorem dX12_init_0 : decode cX12_init 0 = .ok (.aload_n 0, 1) := by decide +kernel
theorem dX12_init_1 : decode cX12_init 1 = .ok (.invokespecial 3, 3) := by decide +kernel
theorem dX12_init_4 : decode cX12_init 4 = .ok (.aload_n 0, 1) := by decide +kernel
theorem dX12_init_5 : decode cX12_init 5 = .ok (.sipush 2001, 3) := by decide +kernel
theorem dX12_init_8 : decode cX12_init 8 = .ok (.anewarray 9, 3) := by decide +kernel
theorem dX12_init_11 : decode cX12_init 11 = .ok (.putfield 11, 3) := by decide +kernel
theorem dX12_init_14 : decode cX12_init 14 = .ok (.aload_n 0, 1) := by decide +kernel
theorem dX12_init_15 : decode cX12_init 15 = .ok (.sipush 2001, 3) := by decide +kernel
theorem dX12_init_18 : decode cX12_init 18 = .ok (.newarray .int, 2) := by decide +kernel
theorem dX12_init_20 : decode cX12_init 20 = .ok (.putfield 17, 3) := by decide +kernel
theorem dX12_init_23 : decode cX12_init 23 = .ok (.aload_n 0, 1) := by decide +kernel
theorem dX12_init_24 : decode cX12_init 24 = .ok (.sipush 2001, 3) := by decide +kernel
theorem dX12_init_27 : decode cX12_init 27 = .ok (.newarray .long, 2) := by decide +kernel
theorem dX12_init_29 : decode cX12_init 29 = .ok (.putfield 21, 3) := by decide +kernel
theorem dX12_init_32 : decode cX12_init 32 = .ok (.return_, 1) := by decide +kernel
theorem dX13_init_0 : decode cX13_init 0 = .ok (.aload_n 0, 1) := by decide +kernel
theorem dX13_init_1 : decode cX13_init 1 = .ok (.invokespecial 3, 3) := by decide +kernel
theorem dX13_init_4 : decode cX13_init 4 = .ok (.aload_n 0, 1) := by decide +kernel
theorem dX13_init_5 : decode cX13_init 5 = .ok (.sipush 2000, 3) := by decide +kernel
theorem dX13_init_8 : decode cX13_init 8 = .ok (.newarray .byte, 2) := by decide +kernel
theorem dX13_init_10 : decode cX13_init 10 = .ok (.putfield 11, 3) := by decide +kernel
theorem dX13_init_13 : decode cX13_init 13 = .ok (.aload_n 0, 1) := by decide +kernel
theorem dX13_init_14 : decode cX13_init 14 = .ok (.new 15, 3) := by decide +kernel
theorem dX13_init_17 : decode cX13_init 17 = .ok (.dup, 1) := by decide +kernel
theorem dX13_init_18 : decode cX13_init 18 = .ok (.invokespecial 17, 3) := by decide +kernel
theorem dX13_init_21 : decode cX13_init 21 = .ok (.putfield 18, 3) := by decide +kernel
theorem dX13_init_24 : decode cX13_init 24 = .ok (.aload_n 0, 1) := by decide +kernel
theorem dX13_init_25 : decode cX13_init 25 = .ok (.new 22, 3) := by decide +kernel
theorem dX13_init_28 : decode cX13_init 28 = .ok (.dup, 1) := by decide +kernel
theorem dX13_init_29 : decode cX13_init 29 = .ok (.invokespecial 24, 3) := by decide +kernel
theorem dX13_init_32 : decode cX13_init 32 = .ok (.putfield 25, 3) := by decide +kernel
theorem dX13_init_35 : decode cX13_init 35 = .ok (.aload_n 0, 1) := by decide +kernel
theorem dX13_init_36 : decode cX13_init 36 = .ok (.new 22, 3) := by decide +kernel
theorem dX13_init_39 : decode cX13_init 39 = .ok (.dup, 1) := by decide +kernel
theorem dX13_init_40 : decode cX13_init 40 = .ok (.invokespecial 24, 3) := by decide +kernel
theorem dX13_init_43 : decode cX13_init 43 = .ok (.putfield 29, 3) := by decide +kernel
theorem dX13_init_46 : decode cX13_init 46 = .ok (.aload_n 0, 1) := by decide +kernel
theorem dX13_init_47 : decode cX13_init 47 = .ok (.iconst 4, 1) := by decide +kernel
theorem dX13_init_48 : decode cX13_init 48 = .ok (.anewarray 32, 3) := by decide +kernel
theorem dX13_init_51 : decode cX13_init 51 = .ok (.putfield 34, 3) := by decide +kernel
theorem dX13_init_54 : decode cX13_init 54 = .ok (.return_, 1) := by decide +kernel
theorem dX13_sign_0 : decode cX13_sign 0 = .ok (.bipush 24, 2) := by decide +kernel
theorem dX13_sign_2 : decode cX13_sign 2 = .ok (.istore_n 2, 1) := by decide +kernel
theorem dX13_sign_3 : decode cX13_sign 3 = .ok (.iload_n 2, 1) := by decide +kernel
theorem dX13_sign_4 : decode cX13_sign 4 = .ok (.ifCond .lt 52, 3) := by decide +kernel
theorem dX13_sign_7 : decode cX13_sign 7 = .ok (.iload_n 1, 1) := by decide +kernel
theorem dX13_sign_8 : decode cX13_sign 8 = .ok (.iload_n 2, 1) := by decide +kernel
theorem dX13_sign_9 : decode cX13_sign 9 = .ok (.iushr, 1) := by decide +kernel
theorem dX13_sign_10 : decode cX13_sign 10 = .ok (.sipush 255, 3) := by decide +kernel
theorem dX13_sign_13 : decode cX13_sign 13 = .ok (.iand, 1) := by decide +kernel
theorem dX13_sign_14 : decode cX13_sign 14 = .ok (.istore_n 3, 1) := by decide +kernel
theorem dX13_sign_15 : decode cX13_sign 15 = .ok (.iload_n 3, 1) := by decide +kernel
theorem dX13_sign_16 : decode cX13_sign 16 = .ok (.ifCond .eq 34, 3) := by decide +kernel
theorem dX13_sign_19 : decode cX13_sign 19 = .ok (.aload_n 0, 1) := by decide +kernel
theorem dX13_sign_20 : decode cX13_sign 20 = .ok (.getfield 38, 3) := by decide +kernel
theorem dX13_sign_23 : decode cX13_sign 23 = .ok (.sipush 2000, 3) := by decide +kernel
theorem dX13_sign_26 : decode cX13_sign 26 = .ok (.if_icmp .ge 24, 3) := by decide +kernel
theorem dX13_sign_29 : decode cX13_sign 29 = .ok (.aload_n 0, 1) := by decide +kernel
theorem dX13_sign_30 : decode cX13_sign 30 = .ok (.getfield 11, 3) := by decide +kernel
theorem dX13_sign_33 : decode cX13_sign 33 = .ok (.aload_n 0, 1) := by decide +kernel
theorem dX13_sign_34 : decode cX13_sign 34 = .ok (.getfield 38, 3) := by decide +kernel
theorem dX13_sign_37 : decode cX13_sign 37 = .ok (.iload_n 3, 1) := by decide +kernel
theorem dX13_sign_38 : decode cX13_sign 38 = .ok (.i2b, 1) := by decide +kernel
theorem dX13_sign_39 : decode cX13_sign 39 = .ok (.bastore, 1) := by decide +kernel
theorem dX13_sign_40 : decode cX13_sign 40 = .ok (.aload_n 0, 1) := by decide +kernel
theorem dX13_sign_41 : decode cX13_sign 41 = .ok (.dup, 1) := by decide +kernel
theorem dX13_sign_42 : decode cX13_sign 42 = .ok (.getfield 38, 3) := by decide +kernel
theorem dX13_sign_45 : decode cX13_sign 45 = .ok (.iconst 1, 1) := by decide +kernel
theorem dX13_sign_46 : decode cX13_sign 46 = .ok (.iadd, 1) := by decide +kernel
theorem dX13_sign_47 : decode cX13_sign 47 = .ok (.putfield 38, 3) := by decide +kernel
theorem dX13_sign_50 : decode cX13_sign 50 = .ok (.iinc 2 (-8), 3) := by decide +kernel
theorem dX13_sign_53 : decode cX13_sign 53 = .ok (.goto (-50), 3) := by decide +kernel
theorem dX13_sign_56 : decode cX13_sign 56 = .ok (.return_, 1) := by decide +kernel
theorem dX13_service_0 : decode cX13_service 0 = .ok (.aload_n 0, 1) := by decide +kernel
theorem dX13_service_1 : decode cX13_service 1 = .ok (.iload_n 1, 1) := by decide +kernel
theorem dX13_service_2 : decode cX13_service 2 = .ok (.invokevirtual 76, 3) := by decide +kernel
theorem dX13_service_5 : decode cX13_service 5 = .ok (.astore_n 3, 1) := by decide +kernel
theorem dX13_service_6 : decode cX13_service 6 = .ok (.aload_n 3, 1) := by decide +kernel
theorem dX13_service_7 : decode cX13_service 7 = .ok (.ifnull 10, 3) := by decide +kernel
theorem dX13_service_17 : decode cX13_service 17 = .ok (.iconst (-1), 1) := by decide +kernel
theorem dX13_service_18 : decode cX13_service 18 = .ok (.ireturn, 1) := by decide +kernel
theorem dX13_parameter_0 : decode cX13_parameter 0 = .ok (.aload_n 0, 1) := by decide +kernel
theorem dX13_parameter_1 : decode cX13_parameter 1 = .ok (.iload_n 1, 1) := by decide +kernel
theorem dX13_parameter_2 : decode cX13_parameter 2 = .ok (.invokevirtual 76, 3) := by decide +kernel
theorem dX13_parameter_5 : decode cX13_parameter 5 = .ok (.iload_n 2, 1) := by decide +kernel
theorem dX13_parameter_6 : decode cX13_parameter 6 = .ok (.invokestatic 111, 3) := by decide +kernel
theorem dX13_parameter_9 : decode cX13_parameter 9 = .ok (.astore 4, 2) := by decide +kernel
theorem dX13_parameter_11 : decode cX13_parameter 11 = .ok (.aload 4, 2) := by decide +kernel
theorem dX13_parameter_13 : decode cX13_parameter 13 = .ok (.ifnull 10, 3) := by decide +kernel
theorem dX13_parameter_23 : decode cX13_parameter 23 = .ok (.iconst (-1), 1) := by decide +kernel
theorem dX13_parameter_24 : decode cX13_parameter 24 = .ok (.ireturn, 1) := by decide +kernel
theorem dX13_decode_0 : decode cX13_decode 0 = .ok (.aload_n 0, 1) := by decide +kernel
theorem dX13_decode_1 : decode cX13_decode 1 = .ok (.iload_n 1, 1) := by decide +kernel
theorem dX13_decode_2 : decode cX13_decode 2 = .ok (.invokevirtual 76, 3) := by decide +kernel
theorem dX13_decode_5 : decode cX13_decode 5 = .ok (.astore 4, 2) := by decide +kernel
theorem dX13_decode_7 : decode cX13_decode 7 = .ok (.aload 4, 2) := by decide +kernel
theorem dX13_decode_9 : decode cX13_decode 9 = .ok (.iload_n 2, 1) := by decide +kernel
theorem dX13_decode_10 : decode cX13_decode 10 = .ok (.invokestatic 111, 3) := by decide +kernel
theorem dX13_decode_13 : decode cX13_decode 13 = .ok (.astore 5, 2) := by decide +kernel
theorem dX13_decode_15 : decode cX13_decode 15 = .ok (.aload 4, 2) := by decide +kernel
theorem dX13_decode_17 : decode cX13_decode 17 = .ok (.ifnull 15, 3) := by decide +kernel
theorem dX13_decode_32 : decode cX13_decode 32 = .ok (.ldc2_w 134, 3) := by decide +kernel
theorem dX13_decode_35 : decode cX13_decode 35 = .ok (.lreturn, 1) := by decide +kernel
theorem dX13_octet_0 : decode cX13_octet 0 = .ok (.aload_n 0, 1) := by decide +kernel
theorem dX13_octet_1 : decode cX13_octet 1 = .ok (.getfield 25, 3) := by decide +kernel
theorem dX13_octet_4 : decode cX13_octet 4 = .ok (.getfield 160, 3) := by decide +kernel
theorem dX13_octet_7 : decode cX13_octet 7 = .ok (.bipush 64, 2) := by decide +kernel
theorem dX13_octet_9 : decode cX13_octet 9 = .ok (.if_icmp .ne 11, 3) := by decide +kernel
theorem dX13_octet_12 : decode cX13_octet 12 = .ok (.aload_n 0, 1) := by decide +kernel
theorem dX13_octet_13 : decode cX13_octet 13 = .ok (.getfield 25, 3) := by decide +kernel
theorem dX13_octet_16 : decode cX13_octet 16 = .ok (.iconst 0, 1) := by decide +kernel
theorem dX13_octet_17 : decode cX13_octet 17 = .ok (.putfield 160, 3) := by decide +kernel
theorem dX13_octet_20 : decode cX13_octet 20 = .ok (.aload_n 0, 1) := by decide +kernel
theorem dX13_octet_21 : decode cX13_octet 21 = .ok (.getfield 25, 3) := by decide +kernel
theorem dX13_octet_24 : decode cX13_octet 24 = .ok (.iload_n 1, 1) := by decide +kernel
theorem dX13_octet_25 : decode cX13_octet 25 = .ok (.invokevirtual 163, 3) := by decide +kernel
theorem dX13_octet_28 : decode cX13_octet 28 = .ok (.return_, 1) := by decide +kernel
theorem dX13_encode_0 : decode cX13_encode 0 = .ok (.aload_n 0, 1) := by decide +kernel
theorem dX13_encode_1 : decode cX13_encode 1 = .ok (.iload_n 1, 1) := by decide +kernel
theorem dX13_encode_2 : decode cX13_encode 2 = .ok (.invokevirtual 76, 3) := by decide +kernel
theorem dX13_encode_5 : decode cX13_encode 5 = .ok (.astore 5, 2) := by decide +kernel
theorem dX13_encode_7 : decode cX13_encode 7 = .ok (.aload 5, 2) := by decide +kernel
theorem dX13_encode_9 : decode cX13_encode 9 = .ok (.iload_n 2, 1) := by decide +kernel
theorem dX13_encode_10 : decode cX13_encode 10 = .ok (.invokestatic 111, 3) := by decide +kernel
theorem dX13_encode_13 : decode cX13_encode 13 = .ok (.astore 6, 2) := by decide +kernel
theorem dX13_encode_15 : decode cX13_encode 15 = .ok (.aload 5, 2) := by decide +kernel
theorem dX13_encode_17 : decode cX13_encode 17 = .ok (.ifnull 16, 3) := by decide +kernel
theorem dX13_encode_33 : decode cX13_encode 33 = .ok (.iconst (-1), 1) := by decide +kernel
theorem dX13_encode_34 : decode cX13_encode 34 = .ok (.ireturn, 1) := by decide +kernel
theorem dX13_variant_0 : decode cX13_variant 0 = .ok (.aload_n 0, 1) := by decide +kernel
theorem dX13_variant_1 : decode cX13_variant 1 = .ok (.getfield 80, 3) := by decide +kernel
theorem dX13_variant_4 : decode cX13_variant 4 = .ok (.ifnonnull 6, 3) := by decide +kernel
theorem dX13_variant_7 : decode cX13_variant 7 = .ok (.bipush (-3), 2) := by decide +kernel
theorem dX13_variant_9 : decode cX13_variant 9 = .ok (.ireturn, 1) := by decide +kernel
theorem dX13_job_0 : decode cX13_job 0 = .ok (.aload_n 0, 1) := by decide +kernel
theorem dX13_job_1 : decode cX13_job 1 = .ok (.getfield 80, 3) := by decide +kernel
theorem dX13_job_4 : decode cX13_job 4 = .ok (.ifnull 22, 3) := by decide +kernel
theorem dX13_job_26 : decode cX13_job 26 = .ok (.iconst (-1), 1) := by decide +kernel
theorem dX13_job_27 : decode cX13_job 27 = .ok (.ireturn, 1) := by decide +kernel
theorem dX13_ring_0 : decode cX13_ring 0 = .ok (.iload_n 1, 1) := by decide +kernel
theorem dX13_ring_1 : decode cX13_ring 1 = .ok (.ifCond .lt 9, 3) := by decide +kernel
theorem dX13_ring_4 : decode cX13_ring 4 = .ok (.iload_n 1, 1) := by decide +kernel
theorem dX13_ring_5 : decode cX13_ring 5 = .ok (.bipush 6, 2) := by decide +kernel
theorem dX13_ring_7 : decode cX13_ring 7 = .ok (.if_icmp .lt 5, 3) := by decide +kernel
theorem dX13_ring_10 : decode cX13_ring 10 = .ok (.iconst 0, 1) := by decide +kernel
theorem dX13_ring_11 : decode cX13_ring 11 = .ok (.ireturn, 1) := by decide +kernel
theorem dX13_ring_12 : decode cX13_ring 12 = .ok (.aload_n 0, 1) := by decide +kernel
theorem dX13_ring_13 : decode cX13_ring 13 = .ok (.getfield 43, 3) := by decide +kernel
theorem dX13_ring_16 : decode cX13_ring 16 = .ok (.astore_n 2, 1) := by decide +kernel
theorem dX13_ring_17 : decode cX13_ring 17 = .ok (.iconst 0, 1) := by decide +kernel
theorem dX13_ring_18 : decode cX13_ring 18 = .ok (.istore_n 3, 1) := by decide +kernel
theorem dX13_ring_19 : decode cX13_ring 19 = .ok (.iload_n 3, 1) := by decide +kernel
theorem dX13_ring_20 : decode cX13_ring 20 = .ok (.iload_n 1, 1) := by decide +kernel
theorem dX13_ring_21 : decode cX13_ring 21 = .ok (.if_icmp .ge 33, 3) := by decide +kernel
theorem dX13_ring_24 : decode cX13_ring 24 = .ok (.aload_n 2, 1) := by decide +kernel
theorem dX13_ring_25 : decode cX13_ring 25 = .ok (.ifnull 29, 3) := by decide +kernel
theorem dX13_ring_54 : decode cX13_ring 54 = .ok (.aload_n 2, 1) := by decide +kernel
theorem dX13_ring_55 : decode cX13_ring 55 = .ok (.ifnonnull 7, 3) := by decide +kernel
theorem dX13_ring_58 : decode cX13_ring 58 = .ok (.iconst 0, 1) := by decide +kernel
theorem dX13_ring_59 : decode cX13_ring 59 = .ok (.goto 7, 3) := by decide +kernel
theorem dX13_ring_66 : decode cX13_ring 66 = .ok (.ireturn, 1) := by decide +kernel
theorem dX13_compare_0 : decode cX13_compare 0 = .ok (.aload_n 0, 1) := by decide +kernel
theorem dX13_compare_1 : decode cX13_compare 1 = .ok (.getfield 80, 3) := by decide +kernel
theorem dX13_compare_4 : decode cX13_compare 4 = .ok (.ifnull 21, 3) := by decide +kernel
theorem dX13_compare_25 : decode cX13_compare 25 = .ok (.iconst (-1), 1) := by decide +kernel
theorem dX13_compare_26 : decode cX13_compare 26 = .ok (.ireturn, 1) := by decide +kernel
theorem dX13_code_0 : decode cX13_code 0 = .ok (.aload_n 0, 1) := by decide +kernel
theorem dX13_code_1 : decode cX13_code 1 = .ok (.getfield 80, 3) := by decide +kernel
theorem dX13_code_4 : decode cX13_code 4 = .ok (.ifnonnull 5, 3) := by decide +kernel
theorem dX13_code_7 : decode cX13_code 7 = .ok (.iconst 0, 1) := by decide +kernel
theorem dX13_code_8 : decode cX13_code 8 = .ok (.ireturn, 1) := by decide +kernel
theorem dX13_serviceNumbered_0 : decode cX13_serviceNumbered 0 = .ok (.aload_n 0, 1) := by decide +kernel
theorem dX13_serviceNumbered_1 : decode cX13_serviceNumbered 1 = .ok (.getfield 80, 3) := by decide +kernel
theorem dX13_serviceNumbered_4 : decode cX13_serviceNumbered 4 = .ok (.ifnull 22, 3) := by decide +kernel
theorem dX13_serviceNumbered_26 : decode cX13_serviceNumbered 26 = .ok (.aconst_null, 1) := by decide +kernel
theorem dX13_serviceNumbered_27 : decode cX13_serviceNumbered 27 = .ok (.areturn, 1) := by decide +kernel
theorem dX13_parameterNumbered_0 : decode cX13_parameterNumbered 0 = .ok (.aload_n 0, 1) := by decide +kernel
theorem dX13_parameterNumbered_1 : decode cX13_parameterNumbered 1 = .ok (.ifnull 19, 3) := by decide +kernel
theorem dX13_parameterNumbered_20 : decode cX13_parameterNumbered 20 = .ok (.aconst_null, 1) := by decide +kernel
theorem dX13_parameterNumbered_21 : decode cX13_parameterNumbered 21 = .ok (.areturn, 1) := by decide +kernel
abbrev vwCl : List vw_C := [(RJx00060, TJx00060, 6), (RJx4a65c, TJx4a65c, 3), (RX1, TX1, 10), (RX2, TX2, 11), (RX3, TX3, 5), (RX4, TX4, 5), (RX5, TX5, 6), (RX6, TX6, 2), (RX7, TX7, 9), (RX8, TX8, 15), (RX9, TX9, 5), (RX10, TX10, 6), (RX11, TX11, 0), (RX12, TX12, 4), (RX13, TX13, 9), (RX14, TX14, 76)]
