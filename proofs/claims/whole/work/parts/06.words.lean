theorem tw_107 : ((Jvm.Cond.initialized "DescribeText$Tokens") : Cond) ∈ lw_tbl := List.mem_of_getElem? (i := 107) (by decide +kernel)
theorem tw_144 : ((Jvm.Cond.instanceMethod ({ cls := "java/lang/Object", name := "<init>", desc := "()V" } : Jvm.MethodName)) : Cond) ∈ lw_tbl := List.mem_of_getElem? (i := 144) (by decide +kernel)
theorem tw_145 : ((Jvm.Cond.code ({ cls := "java/lang/Object", name := "<init>", desc := "()V" } : Jvm.MethodName) object_method_1_code (1 : Nat) (Option.none : Option Jvm.ClassFile.FieldType)) : Cond) ∈ lw_tbl := List.mem_of_getElem? (i := 145) (by decide +kernel)
theorem tw_151 : ((Jvm.Cond.methodLink "DescribeText$Reader" (3 : Nat) ({ cls := "java/lang/Object", name := "<init>", desc := "()V" } : Jvm.MethodName)) : Cond) ∈ lw_tbl := List.mem_of_getElem? (i := 151) (by decide +kernel)
theorem tw_152 : ((Jvm.Cond.classLink "DescribeText$Reader" (9 : Nat) "DescribeText$Tokens") : Cond) ∈ lw_tbl := List.mem_of_getElem? (i := 152) (by decide +kernel)
theorem tw_153 : ((Jvm.Cond.instantiable "DescribeText$Tokens" (4 : Nat)) : Cond) ∈ lw_tbl := List.mem_of_getElem? (i := 153) (by decide +kernel)
theorem tw_154 : ((Jvm.Cond.methodLinkNest "DescribeText$Reader" (11 : Nat) ({ cls := "DescribeText$Tokens", name := "<init>", desc := "()V" } : Jvm.MethodName) "DescribeText") : Cond) ∈ lw_tbl := List.mem_of_getElem? (i := 154) (by decide +kernel)
theorem tw_155 : ((Jvm.Cond.instanceMethod ({ cls := "DescribeText$Tokens", name := "<init>", desc := "()V" } : Jvm.MethodName)) : Cond) ∈ lw_tbl := List.mem_of_getElem? (i := 155) (by decide +kernel)
theorem tw_156 : ((Jvm.Cond.code ({ cls := "DescribeText$Tokens", name := "<init>", desc := "()V" } : Jvm.MethodName) prog_14_method_1_code (1 : Nat) (Option.none : Option Jvm.ClassFile.FieldType)) : Cond) ∈ lw_tbl := List.mem_of_getElem? (i := 156) (by decide +kernel)
theorem tw_157 : ((Jvm.Cond.methodLink "DescribeText$Tokens" (3 : Nat) ({ cls := "java/lang/Object", name := "<init>", desc := "()V" } : Jvm.MethodName)) : Cond) ∈ lw_tbl := List.mem_of_getElem? (i := 157) (by decide +kernel)
theorem tw_158 : ((Jvm.Cond.classLink "DescribeText$Tokens" (9 : Nat) "DescribeText$Token") : Cond) ∈ lw_tbl := List.mem_of_getElem? (i := 158) (by decide +kernel)
theorem tw_159 : ((Jvm.Cond.arrayOver (Jvm.ClassFile.FieldType.object "DescribeText$Token")) : Cond) ∈ lw_tbl := List.mem_of_getElem? (i := 159) (by decide +kernel)
theorem tw_160 : ((Jvm.Cond.fieldLink "DescribeText$Tokens" (11 : Nat) "DescribeText$Tokens" "kinds" "[LDescribeText$Token;") : Cond) ∈ lw_tbl := List.mem_of_getElem? (i := 160) (by decide +kernel)
theorem tw_161 : ((Jvm.Cond.fieldLink "DescribeText$Tokens" (17 : Nat) "DescribeText$Tokens" "starts" "[I") : Cond) ∈ lw_tbl := List.mem_of_getElem? (i := 161) (by decide +kernel)
theorem tw_162 : ((Jvm.Cond.fieldLink "DescribeText$Tokens" (21 : Nat) "DescribeText$Tokens" "values" "[J") : Cond) ∈ lw_tbl := List.mem_of_getElem? (i := 162) (by decide +kernel)
theorem tw_174 : ((Jvm.Cond.arrayClass Jvm.ClassFile.FieldType.byte) : Cond) ∈ lw_tbl := List.mem_of_getElem? (i := 174) (by decide +kernel)
theorem tw_175 : ((Jvm.Cond.arrayClass Jvm.ClassFile.FieldType.int) : Cond) ∈ lw_tbl := List.mem_of_getElem? (i := 175) (by decide +kernel)
theorem tw_176 : ((Jvm.Cond.arrayClass Jvm.ClassFile.FieldType.long) : Cond) ∈ lw_tbl := List.mem_of_getElem? (i := 176) (by decide +kernel)
theorem tw_177 : ((Jvm.Cond.fieldLink "DescribeText$Reader" (12 : Nat) "DescribeText$Reader" "tokens" "LDescribeText$Tokens;") : Cond) ∈ lw_tbl := List.mem_of_getElem? (i := 177) (by decide +kernel)
theorem tw_178 : ((Jvm.Cond.fieldLink "DescribeText$Reader" (18 : Nat) "DescribeText$Reader" "openWhiles" "[I") : Cond) ∈ lw_tbl := List.mem_of_getElem? (i := 178) (by decide +kernel)
theorem tw_198 : ((Jvm.Cond.methodLink "DescribeText$Octets" (3 : Nat) ({ cls := "java/lang/Object", name := "<init>", desc := "()V" } : Jvm.MethodName)) : Cond) ∈ lw_tbl := List.mem_of_getElem? (i := 198) (by decide +kernel)
theorem tw_199 : ((Jvm.Cond.fieldLink "DescribeText$Octets" (9 : Nat) "DescribeText$Octets" "row" "[B") : Cond) ∈ lw_tbl := List.mem_of_getElem? (i := 199) (by decide +kernel)
theorem tw_200 : ((Jvm.Cond.fieldLink "DescribeText$Octets" (15 : Nat) "DescribeText$Octets" "length" "I") : Cond) ∈ lw_tbl := List.mem_of_getElem? (i := 200) (by decide +kernel)
theorem tw_211 : ((Jvm.Cond.fieldLink "DescribeText" (11 : Nat) "DescribeText" "text" "[B") : Cond) ∈ lw_tbl := List.mem_of_getElem? (i := 211) (by decide +kernel)
theorem tw_216 : ((Jvm.Cond.fieldLink "DescribeText" (38 : Nat) "DescribeText" "textLength" "I") : Cond) ∈ lw_tbl := List.mem_of_getElem? (i := 216) (by decide +kernel)
set_option maxRecDepth 100000 in
theorem fX12 : ∀ w ∈ u_ws RX12 TX12 4, w ∈ lw_tbl ∧ (tb_ok w && w.onTables) = true := by decide +kernel
set_option maxRecDepth 100000 in
theorem fX13 : ∀ w ∈ u_ws RX13 TX13 9, w ∈ lw_tbl ∧ (tb_ok w && w.onTables) = true := by decide +kernel
set_option maxRecDepth 100000 in
theorem fX6 : ∀ w ∈ u_ws RX6 TX6 2, w ∈ lw_tbl ∧ (tb_ok w && w.onTables) = true := by decide +kernel
set_option maxRecDepth 100000 in
theorem fX9 : ∀ w ∈ u_ws RX9 TX9 5, w ∈ lw_tbl ∧ (tb_ok w && w.onTables) = true := by decide +kernel
