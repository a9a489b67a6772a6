set_option maxRecDepth 100000 in
theorem nw_6 : (Jvm.Cond.exactly (Jvm.Term.static "java/util/ArrayList" "DEFAULTCAPACITY_EMPTY_ELEMENTDATA" "[Ljava/lang/Object;") "[Ljava/lang/Object;") ∈ flatC (Jvm.Cond.and given_1 narrow_1) := List.mem_of_getElem? (i := 6) (by rfl)
set_option maxRecDepth 100000 in
theorem nw_8 : (Jvm.Cond.exactly (Jvm.Term.static "DescribeText$Token" "BAD" "LDescribeText$Token;") "DescribeText$Token") ∈ flatC (Jvm.Cond.and given_1 narrow_1) := List.mem_of_getElem? (i := 8) (by rfl)
set_option maxRecDepth 100000 in
theorem nw_9 : (Jvm.Cond.eq (Jvm.Term.field (Jvm.Term.static "DescribeText$Token" "BAD" "LDescribeText$Token;") "java/lang/Enum" "ordinal" "I") (Jvm.Term.int (3 : Int32))) ∈ flatC (Jvm.Cond.and given_1 narrow_1) := List.mem_of_getElem? (i := 9) (by rfl)
set_option maxRecDepth 100000 in
theorem nw_11 : (Jvm.Cond.eq (Jvm.Term.field (Jvm.Term.static "DescribeText$Token" "BAD" "LDescribeText$Token;") "DescribeText$Token" "takes" "I") (Jvm.Term.int (0 : Int32))) ∈ flatC (Jvm.Cond.and given_1 narrow_1) := List.mem_of_getElem? (i := 11) (by rfl)
set_option maxRecDepth 100000 in
theorem nw_12 : (Jvm.Cond.eq (Jvm.Term.field (Jvm.Term.static "DescribeText$Token" "BAD" "LDescribeText$Token;") "DescribeText$Token" "lays" "I") (Jvm.Term.int (0 : Int32))) ∈ flatC (Jvm.Cond.and given_1 narrow_1) := List.mem_of_getElem? (i := 12) (by rfl)
set_option maxRecDepth 100000 in
theorem nw_58 : (Jvm.Cond.exactly (Jvm.Term.static "DescribeText$Token" "NAME" "LDescribeText$Token;") "DescribeText$Token") ∈ flatC (Jvm.Cond.and given_1 narrow_1) := List.mem_of_getElem? (i := 58) (by rfl)
set_option maxRecDepth 100000 in
theorem nw_59 : (Jvm.Cond.eq (Jvm.Term.field (Jvm.Term.static "DescribeText$Token" "NAME" "LDescribeText$Token;") "java/lang/Enum" "ordinal" "I") (Jvm.Term.int (0 : Int32))) ∈ flatC (Jvm.Cond.and given_1 narrow_1) := List.mem_of_getElem? (i := 59) (by rfl)
set_option maxRecDepth 100000 in
theorem nw_61 : (Jvm.Cond.eq (Jvm.Term.field (Jvm.Term.static "DescribeText$Token" "NAME" "LDescribeText$Token;") "DescribeText$Token" "takes" "I") (Jvm.Term.int (0 : Int32))) ∈ flatC (Jvm.Cond.and given_1 narrow_1) := List.mem_of_getElem? (i := 61) (by rfl)
set_option maxRecDepth 100000 in
theorem nw_62 : (Jvm.Cond.eq (Jvm.Term.field (Jvm.Term.static "DescribeText$Token" "NAME" "LDescribeText$Token;") "DescribeText$Token" "lays" "I") (Jvm.Term.int (0 : Int32))) ∈ flatC (Jvm.Cond.and given_1 narrow_1) := List.mem_of_getElem? (i := 62) (by rfl)
set_option maxRecDepth 100000 in
theorem nw_63 : (Jvm.Cond.exactly (Jvm.Term.static "DescribeText$Token" "NUMBER" "LDescribeText$Token;") "DescribeText$Token") ∈ flatC (Jvm.Cond.and given_1 narrow_1) := List.mem_of_getElem? (i := 63) (by rfl)
set_option maxRecDepth 100000 in
theorem nw_64 : (Jvm.Cond.eq (Jvm.Term.field (Jvm.Term.static "DescribeText$Token" "NUMBER" "LDescribeText$Token;") "java/lang/Enum" "ordinal" "I") (Jvm.Term.int (1 : Int32))) ∈ flatC (Jvm.Cond.and given_1 narrow_1) := List.mem_of_getElem? (i := 64) (by rfl)
set_option maxRecDepth 100000 in
theorem nw_66 : (Jvm.Cond.eq (Jvm.Term.field (Jvm.Term.static "DescribeText$Token" "NUMBER" "LDescribeText$Token;") "DescribeText$Token" "takes" "I") (Jvm.Term.int (0 : Int32))) ∈ flatC (Jvm.Cond.and given_1 narrow_1) := List.mem_of_getElem? (i := 66) (by rfl)
set_option maxRecDepth 100000 in
theorem nw_67 : (Jvm.Cond.eq (Jvm.Term.field (Jvm.Term.static "DescribeText$Token" "NUMBER" "LDescribeText$Token;") "DescribeText$Token" "lays" "I") (Jvm.Term.int (0 : Int32))) ∈ flatC (Jvm.Cond.and given_1 narrow_1) := List.mem_of_getElem? (i := 67) (by rfl)
set_option maxRecDepth 100000 in
theorem nw_68 : (Jvm.Cond.exactly (Jvm.Term.static "DescribeText$Token" "END" "LDescribeText$Token;") "DescribeText$Token") ∈ flatC (Jvm.Cond.and given_1 narrow_1) := List.mem_of_getElem? (i := 68) (by rfl)
set_option maxRecDepth 100000 in
theorem nw_69 : (Jvm.Cond.eq (Jvm.Term.field (Jvm.Term.static "DescribeText$Token" "END" "LDescribeText$Token;") "java/lang/Enum" "ordinal" "I") (Jvm.Term.int (2 : Int32))) ∈ flatC (Jvm.Cond.and given_1 narrow_1) := List.mem_of_getElem? (i := 69) (by rfl)
set_option maxRecDepth 100000 in
theorem nw_71 : (Jvm.Cond.eq (Jvm.Term.field (Jvm.Term.static "DescribeText$Token" "END" "LDescribeText$Token;") "DescribeText$Token" "takes" "I") (Jvm.Term.int (0 : Int32))) ∈ flatC (Jvm.Cond.and given_1 narrow_1) := List.mem_of_getElem? (i := 71) (by rfl)
set_option maxRecDepth 100000 in
theorem nw_72 : (Jvm.Cond.eq (Jvm.Term.field (Jvm.Term.static "DescribeText$Token" "END" "LDescribeText$Token;") "DescribeText$Token" "lays" "I") (Jvm.Term.int (0 : Int32))) ∈ flatC (Jvm.Cond.and given_1 narrow_1) := List.mem_of_getElem? (i := 72) (by rfl)
set_option maxRecDepth 100000 in
theorem nw_111 : (Jvm.Cond.exactly (Jvm.Term.static "DescribeText$Token" "EQUAL" "LDescribeText$Token;") "DescribeText$Token") ∈ flatC (Jvm.Cond.and given_1 narrow_1) := List.mem_of_getElem? (i := 111) (by rfl)
set_option maxRecDepth 100000 in
theorem nw_112 : (Jvm.Cond.eq (Jvm.Term.field (Jvm.Term.static "DescribeText$Token" "EQUAL" "LDescribeText$Token;") "java/lang/Enum" "ordinal" "I") (Jvm.Term.int (8 : Int32))) ∈ flatC (Jvm.Cond.and given_1 narrow_1) := List.mem_of_getElem? (i := 112) (by rfl)
set_option maxRecDepth 100000 in
theorem nw_114 : (Jvm.Cond.eq (Jvm.Term.field (Jvm.Term.static "DescribeText$Token" "EQUAL" "LDescribeText$Token;") "DescribeText$Token" "takes" "I") (Jvm.Term.int (0 : Int32))) ∈ flatC (Jvm.Cond.and given_1 narrow_1) := List.mem_of_getElem? (i := 114) (by rfl)
set_option maxRecDepth 100000 in
theorem nw_115 : (Jvm.Cond.eq (Jvm.Term.field (Jvm.Term.static "DescribeText$Token" "EQUAL" "LDescribeText$Token;") "DescribeText$Token" "lays" "I") (Jvm.Term.int (0 : Int32))) ∈ flatC (Jvm.Cond.and given_1 narrow_1) := List.mem_of_getElem? (i := 115) (by rfl)
set_option maxRecDepth 100000 in
theorem nw_116 : (Jvm.Cond.exactly (Jvm.Term.static "DescribeText$Token" "OCTETS" "LDescribeText$Token;") "DescribeText$Token") ∈ flatC (Jvm.Cond.and given_1 narrow_1) := List.mem_of_getElem? (i := 116) (by rfl)
set_option maxRecDepth 100000 in
theorem nw_117 : (Jvm.Cond.eq (Jvm.Term.field (Jvm.Term.static "DescribeText$Token" "OCTETS" "LDescribeText$Token;") "java/lang/Enum" "ordinal" "I") (Jvm.Term.int (12 : Int32))) ∈ flatC (Jvm.Cond.and given_1 narrow_1) := List.mem_of_getElem? (i := 117) (by rfl)
set_option maxRecDepth 100000 in
theorem nw_119 : (Jvm.Cond.eq (Jvm.Term.field (Jvm.Term.static "DescribeText$Token" "OCTETS" "LDescribeText$Token;") "DescribeText$Token" "takes" "I") (Jvm.Term.int (0 : Int32))) ∈ flatC (Jvm.Cond.and given_1 narrow_1) := List.mem_of_getElem? (i := 119) (by rfl)
set_option maxRecDepth 100000 in
theorem nw_120 : (Jvm.Cond.eq (Jvm.Term.field (Jvm.Term.static "DescribeText$Token" "OCTETS" "LDescribeText$Token;") "DescribeText$Token" "lays" "I") (Jvm.Term.int (0 : Int32))) ∈ flatC (Jvm.Cond.and given_1 narrow_1) := List.mem_of_getElem? (i := 120) (by rfl)
set_option maxRecDepth 100000 in
theorem nw_121 : (Jvm.Cond.exactly (Jvm.Term.static "DescribeText$Token" "OPEN" "LDescribeText$Token;") "DescribeText$Token") ∈ flatC (Jvm.Cond.and given_1 narrow_1) := List.mem_of_getElem? (i := 121) (by rfl)
set_option maxRecDepth 100000 in
theorem nw_122 : (Jvm.Cond.eq (Jvm.Term.field (Jvm.Term.static "DescribeText$Token" "OPEN" "LDescribeText$Token;") "java/lang/Enum" "ordinal" "I") (Jvm.Term.int (4 : Int32))) ∈ flatC (Jvm.Cond.and given_1 narrow_1) := List.mem_of_getElem? (i := 122) (by rfl)
set_option maxRecDepth 100000 in
theorem nw_124 : (Jvm.Cond.eq (Jvm.Term.field (Jvm.Term.static "DescribeText$Token" "OPEN" "LDescribeText$Token;") "DescribeText$Token" "takes" "I") (Jvm.Term.int (0 : Int32))) ∈ flatC (Jvm.Cond.and given_1 narrow_1) := List.mem_of_getElem? (i := 124) (by rfl)
set_option maxRecDepth 100000 in
theorem nw_125 : (Jvm.Cond.eq (Jvm.Term.field (Jvm.Term.static "DescribeText$Token" "OPEN" "LDescribeText$Token;") "DescribeText$Token" "lays" "I") (Jvm.Term.int (0 : Int32))) ∈ flatC (Jvm.Cond.and given_1 narrow_1) := List.mem_of_getElem? (i := 125) (by rfl)
set_option maxRecDepth 100000 in
theorem nw_126 : (Jvm.Cond.exactly (Jvm.Term.static "DescribeText$Token" "SEMICOLON" "LDescribeText$Token;") "DescribeText$Token") ∈ flatC (Jvm.Cond.and given_1 narrow_1) := List.mem_of_getElem? (i := 126) (by rfl)
set_option maxRecDepth 100000 in
theorem nw_127 : (Jvm.Cond.eq (Jvm.Term.field (Jvm.Term.static "DescribeText$Token" "SEMICOLON" "LDescribeText$Token;") "java/lang/Enum" "ordinal" "I") (Jvm.Term.int (6 : Int32))) ∈ flatC (Jvm.Cond.and given_1 narrow_1) := List.mem_of_getElem? (i := 127) (by rfl)
set_option maxRecDepth 100000 in
theorem nw_129 : (Jvm.Cond.eq (Jvm.Term.field (Jvm.Term.static "DescribeText$Token" "SEMICOLON" "LDescribeText$Token;") "DescribeText$Token" "takes" "I") (Jvm.Term.int (0 : Int32))) ∈ flatC (Jvm.Cond.and given_1 narrow_1) := List.mem_of_getElem? (i := 129) (by rfl)
set_option maxRecDepth 100000 in
theorem nw_130 : (Jvm.Cond.eq (Jvm.Term.field (Jvm.Term.static "DescribeText$Token" "SEMICOLON" "LDescribeText$Token;") "DescribeText$Token" "lays" "I") (Jvm.Term.int (0 : Int32))) ∈ flatC (Jvm.Cond.and given_1 narrow_1) := List.mem_of_getElem? (i := 130) (by rfl)
set_option maxRecDepth 100000 in
theorem nw_131 : (Jvm.Cond.exactly (Jvm.Term.static "DescribeText$Token" "CLOSE" "LDescribeText$Token;") "DescribeText$Token") ∈ flatC (Jvm.Cond.and given_1 narrow_1) := List.mem_of_getElem? (i := 131) (by rfl)
set_option maxRecDepth 100000 in
theorem nw_132 : (Jvm.Cond.eq (Jvm.Term.field (Jvm.Term.static "DescribeText$Token" "CLOSE" "LDescribeText$Token;") "java/lang/Enum" "ordinal" "I") (Jvm.Term.int (5 : Int32))) ∈ flatC (Jvm.Cond.and given_1 narrow_1) := List.mem_of_getElem? (i := 132) (by rfl)
set_option maxRecDepth 100000 in
theorem nw_134 : (Jvm.Cond.eq (Jvm.Term.field (Jvm.Term.static "DescribeText$Token" "CLOSE" "LDescribeText$Token;") "DescribeText$Token" "takes" "I") (Jvm.Term.int (0 : Int32))) ∈ flatC (Jvm.Cond.and given_1 narrow_1) := List.mem_of_getElem? (i := 134) (by rfl)
set_option maxRecDepth 100000 in
theorem nw_135 : (Jvm.Cond.eq (Jvm.Term.field (Jvm.Term.static "DescribeText$Token" "CLOSE" "LDescribeText$Token;") "DescribeText$Token" "lays" "I") (Jvm.Term.int (0 : Int32))) ∈ flatC (Jvm.Cond.and given_1 narrow_1) := List.mem_of_getElem? (i := 135) (by rfl)
set_option maxRecDepth 100000 in
theorem nw_136 : (Jvm.Cond.exactly (Jvm.Term.static "DescribeText$Token" "SIGNED" "LDescribeText$Token;") "DescribeText$Token") ∈ flatC (Jvm.Cond.and given_1 narrow_1) := List.mem_of_getElem? (i := 136) (by rfl)
set_option maxRecDepth 100000 in
theorem nw_137 : (Jvm.Cond.eq (Jvm.Term.field (Jvm.Term.static "DescribeText$Token" "SIGNED" "LDescribeText$Token;") "java/lang/Enum" "ordinal" "I") (Jvm.Term.int (13 : Int32))) ∈ flatC (Jvm.Cond.and given_1 narrow_1) := List.mem_of_getElem? (i := 137) (by rfl)
set_option maxRecDepth 100000 in
theorem nw_139 : (Jvm.Cond.eq (Jvm.Term.field (Jvm.Term.static "DescribeText$Token" "SIGNED" "LDescribeText$Token;") "DescribeText$Token" "takes" "I") (Jvm.Term.int (0 : Int32))) ∈ flatC (Jvm.Cond.and given_1 narrow_1) := List.mem_of_getElem? (i := 139) (by rfl)
set_option maxRecDepth 100000 in
theorem nw_140 : (Jvm.Cond.eq (Jvm.Term.field (Jvm.Term.static "DescribeText$Token" "SIGNED" "LDescribeText$Token;") "DescribeText$Token" "lays" "I") (Jvm.Term.int (0 : Int32))) ∈ flatC (Jvm.Cond.and given_1 narrow_1) := List.mem_of_getElem? (i := 140) (by rfl)
set_option maxRecDepth 100000 in
theorem nw_141 : (Jvm.Cond.exactly (Jvm.Term.static "DescribeText$Token" "SCALE" "LDescribeText$Token;") "DescribeText$Token") ∈ flatC (Jvm.Cond.and given_1 narrow_1) := List.mem_of_getElem? (i := 141) (by rfl)
set_option maxRecDepth 100000 in
theorem nw_142 : (Jvm.Cond.eq (Jvm.Term.field (Jvm.Term.static "DescribeText$Token" "SCALE" "LDescribeText$Token;") "java/lang/Enum" "ordinal" "I") (Jvm.Term.int (14 : Int32))) ∈ flatC (Jvm.Cond.and given_1 narrow_1) := List.mem_of_getElem? (i := 142) (by rfl)
set_option maxRecDepth 100000 in
theorem nw_144 : (Jvm.Cond.eq (Jvm.Term.field (Jvm.Term.static "DescribeText$Token" "SCALE" "LDescribeText$Token;") "DescribeText$Token" "takes" "I") (Jvm.Term.int (0 : Int32))) ∈ flatC (Jvm.Cond.and given_1 narrow_1) := List.mem_of_getElem? (i := 144) (by rfl)
set_option maxRecDepth 100000 in
theorem nw_145 : (Jvm.Cond.eq (Jvm.Term.field (Jvm.Term.static "DescribeText$Token" "SCALE" "LDescribeText$Token;") "DescribeText$Token" "lays" "I") (Jvm.Term.int (0 : Int32))) ∈ flatC (Jvm.Cond.and given_1 narrow_1) := List.mem_of_getElem? (i := 145) (by rfl)
set_option maxRecDepth 100000 in
theorem nw_146 : (Jvm.Cond.exactly (Jvm.Term.static "DescribeText$Token" "MINUS" "LDescribeText$Token;") "DescribeText$Token") ∈ flatC (Jvm.Cond.and given_1 narrow_1) := List.mem_of_getElem? (i := 146) (by rfl)
set_option maxRecDepth 100000 in
theorem nw_147 : (Jvm.Cond.eq (Jvm.Term.field (Jvm.Term.static "DescribeText$Token" "MINUS" "LDescribeText$Token;") "java/lang/Enum" "ordinal" "I") (Jvm.Term.int (10 : Int32))) ∈ flatC (Jvm.Cond.and given_1 narrow_1) := List.mem_of_getElem? (i := 147) (by rfl)
set_option maxRecDepth 100000 in
theorem nw_149 : (Jvm.Cond.eq (Jvm.Term.field (Jvm.Term.static "DescribeText$Token" "MINUS" "LDescribeText$Token;") "DescribeText$Token" "takes" "I") (Jvm.Term.int (0 : Int32))) ∈ flatC (Jvm.Cond.and given_1 narrow_1) := List.mem_of_getElem? (i := 149) (by rfl)
set_option maxRecDepth 100000 in
theorem nw_150 : (Jvm.Cond.eq (Jvm.Term.field (Jvm.Term.static "DescribeText$Token" "MINUS" "LDescribeText$Token;") "DescribeText$Token" "lays" "I") (Jvm.Term.int (0 : Int32))) ∈ flatC (Jvm.Cond.and given_1 narrow_1) := List.mem_of_getElem? (i := 150) (by rfl)
set_option maxRecDepth 100000 in
theorem nw_151 : (Jvm.Cond.exactly (Jvm.Term.static "DescribeText$Token" "SLASH" "LDescribeText$Token;") "DescribeText$Token") ∈ flatC (Jvm.Cond.and given_1 narrow_1) := List.mem_of_getElem? (i := 151) (by rfl)
set_option maxRecDepth 100000 in
theorem nw_152 : (Jvm.Cond.eq (Jvm.Term.field (Jvm.Term.static "DescribeText$Token" "SLASH" "LDescribeText$Token;") "java/lang/Enum" "ordinal" "I") (Jvm.Term.int (9 : Int32))) ∈ flatC (Jvm.Cond.and given_1 narrow_1) := List.mem_of_getElem? (i := 152) (by rfl)
set_option maxRecDepth 100000 in
theorem nw_154 : (Jvm.Cond.eq (Jvm.Term.field (Jvm.Term.static "DescribeText$Token" "SLASH" "LDescribeText$Token;") "DescribeText$Token" "takes" "I") (Jvm.Term.int (0 : Int32))) ∈ flatC (Jvm.Cond.and given_1 narrow_1) := List.mem_of_getElem? (i := 154) (by rfl)
set_option maxRecDepth 100000 in
theorem nw_155 : (Jvm.Cond.eq (Jvm.Term.field (Jvm.Term.static "DescribeText$Token" "SLASH" "LDescribeText$Token;") "DescribeText$Token" "lays" "I") (Jvm.Term.int (0 : Int32))) ∈ flatC (Jvm.Cond.and given_1 narrow_1) := List.mem_of_getElem? (i := 155) (by rfl)
set_option maxRecDepth 100000 in
theorem nw_156 : (Jvm.Cond.exactly (Jvm.Term.static "DescribeText$Token" "PLUS" "LDescribeText$Token;") "DescribeText$Token") ∈ flatC (Jvm.Cond.and given_1 narrow_1) := List.mem_of_getElem? (i := 156) (by rfl)
set_option maxRecDepth 100000 in
theorem nw_157 : (Jvm.Cond.eq (Jvm.Term.field (Jvm.Term.static "DescribeText$Token" "PLUS" "LDescribeText$Token;") "java/lang/Enum" "ordinal" "I") (Jvm.Term.int (15 : Int32))) ∈ flatC (Jvm.Cond.and given_1 narrow_1) := List.mem_of_getElem? (i := 157) (by rfl)
set_option maxRecDepth 100000 in
theorem nw_159 : (Jvm.Cond.eq (Jvm.Term.field (Jvm.Term.static "DescribeText$Token" "PLUS" "LDescribeText$Token;") "DescribeText$Token" "takes" "I") (Jvm.Term.int (0 : Int32))) ∈ flatC (Jvm.Cond.and given_1 narrow_1) := List.mem_of_getElem? (i := 159) (by rfl)
set_option maxRecDepth 100000 in
theorem nw_160 : (Jvm.Cond.eq (Jvm.Term.field (Jvm.Term.static "DescribeText$Token" "PLUS" "LDescribeText$Token;") "DescribeText$Token" "lays" "I") (Jvm.Term.int (0 : Int32))) ∈ flatC (Jvm.Cond.and given_1 narrow_1) := List.mem_of_getElem? (i := 160) (by rfl)
set_option maxRecDepth 100000 in
theorem nw_161 : (Jvm.Cond.exactly (Jvm.Term.static "DescribeText$Token" "OF" "LDescribeText$Token;") "DescribeText$Token") ∈ flatC (Jvm.Cond.and given_1 narrow_1) := List.mem_of_getElem? (i := 161) (by rfl)
set_option maxRecDepth 100000 in
theorem nw_162 : (Jvm.Cond.eq (Jvm.Term.field (Jvm.Term.static "DescribeText$Token" "OF" "LDescribeText$Token;") "java/lang/Enum" "ordinal" "I") (Jvm.Term.int (17 : Int32))) ∈ flatC (Jvm.Cond.and given_1 narrow_1) := List.mem_of_getElem? (i := 162) (by rfl)
set_option maxRecDepth 100000 in
theorem nw_164 : (Jvm.Cond.eq (Jvm.Term.field (Jvm.Term.static "DescribeText$Token" "OF" "LDescribeText$Token;") "DescribeText$Token" "takes" "I") (Jvm.Term.int (0 : Int32))) ∈ flatC (Jvm.Cond.and given_1 narrow_1) := List.mem_of_getElem? (i := 164) (by rfl)
set_option maxRecDepth 100000 in
theorem nw_165 : (Jvm.Cond.eq (Jvm.Term.field (Jvm.Term.static "DescribeText$Token" "OF" "LDescribeText$Token;") "DescribeText$Token" "lays" "I") (Jvm.Term.int (0 : Int32))) ∈ flatC (Jvm.Cond.and given_1 narrow_1) := List.mem_of_getElem? (i := 165) (by rfl)
set_option maxRecDepth 100000 in
theorem nw_166 : (Jvm.Cond.exactly (Jvm.Term.static "DescribeText$Token" "SERVICE" "LDescribeText$Token;") "DescribeText$Token") ∈ flatC (Jvm.Cond.and given_1 narrow_1) := List.mem_of_getElem? (i := 166) (by rfl)
set_option maxRecDepth 100000 in
theorem nw_167 : (Jvm.Cond.eq (Jvm.Term.field (Jvm.Term.static "DescribeText$Token" "SERVICE" "LDescribeText$Token;") "java/lang/Enum" "ordinal" "I") (Jvm.Term.int (18 : Int32))) ∈ flatC (Jvm.Cond.and given_1 narrow_1) := List.mem_of_getElem? (i := 167) (by rfl)
set_option maxRecDepth 100000 in
theorem nw_169 : (Jvm.Cond.eq (Jvm.Term.field (Jvm.Term.static "DescribeText$Token" "SERVICE" "LDescribeText$Token;") "DescribeText$Token" "takes" "I") (Jvm.Term.int (0 : Int32))) ∈ flatC (Jvm.Cond.and given_1 narrow_1) := List.mem_of_getElem? (i := 169) (by rfl)
set_option maxRecDepth 100000 in
theorem nw_170 : (Jvm.Cond.eq (Jvm.Term.field (Jvm.Term.static "DescribeText$Token" "SERVICE" "LDescribeText$Token;") "DescribeText$Token" "lays" "I") (Jvm.Term.int (0 : Int32))) ∈ flatC (Jvm.Cond.and given_1 narrow_1) := List.mem_of_getElem? (i := 170) (by rfl)
set_option maxRecDepth 100000 in
theorem nw_171 : (Jvm.Cond.exactly (Jvm.Term.static "DescribeText$Token" "PARAM" "LDescribeText$Token;") "DescribeText$Token") ∈ flatC (Jvm.Cond.and given_1 narrow_1) := List.mem_of_getElem? (i := 171) (by rfl)
set_option maxRecDepth 100000 in
theorem nw_172 : (Jvm.Cond.eq (Jvm.Term.field (Jvm.Term.static "DescribeText$Token" "PARAM" "LDescribeText$Token;") "java/lang/Enum" "ordinal" "I") (Jvm.Term.int (19 : Int32))) ∈ flatC (Jvm.Cond.and given_1 narrow_1) := List.mem_of_getElem? (i := 172) (by rfl)
set_option maxRecDepth 100000 in
theorem nw_174 : (Jvm.Cond.eq (Jvm.Term.field (Jvm.Term.static "DescribeText$Token" "PARAM" "LDescribeText$Token;") "DescribeText$Token" "takes" "I") (Jvm.Term.int (0 : Int32))) ∈ flatC (Jvm.Cond.and given_1 narrow_1) := List.mem_of_getElem? (i := 174) (by rfl)
set_option maxRecDepth 100000 in
theorem nw_175 : (Jvm.Cond.eq (Jvm.Term.field (Jvm.Term.static "DescribeText$Token" "PARAM" "LDescribeText$Token;") "DescribeText$Token" "lays" "I") (Jvm.Term.int (0 : Int32))) ∈ flatC (Jvm.Cond.and given_1 narrow_1) := List.mem_of_getElem? (i := 175) (by rfl)
set_option maxRecDepth 100000 in
theorem nw_176 : (Jvm.Cond.exactly (Jvm.Term.static "DescribeText$Token" "COLON" "LDescribeText$Token;") "DescribeText$Token") ∈ flatC (Jvm.Cond.and given_1 narrow_1) := List.mem_of_getElem? (i := 176) (by rfl)
set_option maxRecDepth 100000 in
theorem nw_177 : (Jvm.Cond.eq (Jvm.Term.field (Jvm.Term.static "DescribeText$Token" "COLON" "LDescribeText$Token;") "java/lang/Enum" "ordinal" "I") (Jvm.Term.int (7 : Int32))) ∈ flatC (Jvm.Cond.and given_1 narrow_1) := List.mem_of_getElem? (i := 177) (by rfl)
set_option maxRecDepth 100000 in
theorem nw_179 : (Jvm.Cond.eq (Jvm.Term.field (Jvm.Term.static "DescribeText$Token" "COLON" "LDescribeText$Token;") "DescribeText$Token" "takes" "I") (Jvm.Term.int (0 : Int32))) ∈ flatC (Jvm.Cond.and given_1 narrow_1) := List.mem_of_getElem? (i := 179) (by rfl)
set_option maxRecDepth 100000 in
theorem nw_180 : (Jvm.Cond.eq (Jvm.Term.field (Jvm.Term.static "DescribeText$Token" "COLON" "LDescribeText$Token;") "DescribeText$Token" "lays" "I") (Jvm.Term.int (0 : Int32))) ∈ flatC (Jvm.Cond.and given_1 narrow_1) := List.mem_of_getElem? (i := 180) (by rfl)
set_option maxRecDepth 100000 in
theorem nw_181 : (Jvm.Cond.exactly (Jvm.Term.static "DescribeText$Token" "WHEN" "LDescribeText$Token;") "DescribeText$Token") ∈ flatC (Jvm.Cond.and given_1 narrow_1) := List.mem_of_getElem? (i := 181) (by rfl)
set_option maxRecDepth 100000 in
theorem nw_182 : (Jvm.Cond.eq (Jvm.Term.field (Jvm.Term.static "DescribeText$Token" "WHEN" "LDescribeText$Token;") "java/lang/Enum" "ordinal" "I") (Jvm.Term.int (20 : Int32))) ∈ flatC (Jvm.Cond.and given_1 narrow_1) := List.mem_of_getElem? (i := 182) (by rfl)
set_option maxRecDepth 100000 in
theorem nw_184 : (Jvm.Cond.eq (Jvm.Term.field (Jvm.Term.static "DescribeText$Token" "WHEN" "LDescribeText$Token;") "DescribeText$Token" "takes" "I") (Jvm.Term.int (0 : Int32))) ∈ flatC (Jvm.Cond.and given_1 narrow_1) := List.mem_of_getElem? (i := 184) (by rfl)
set_option maxRecDepth 100000 in
theorem nw_185 : (Jvm.Cond.eq (Jvm.Term.field (Jvm.Term.static "DescribeText$Token" "WHEN" "LDescribeText$Token;") "DescribeText$Token" "lays" "I") (Jvm.Term.int (0 : Int32))) ∈ flatC (Jvm.Cond.and given_1 narrow_1) := List.mem_of_getElem? (i := 185) (by rfl)
set_option maxRecDepth 100000 in
theorem nw_186 : (Jvm.Cond.exactly (Jvm.Term.static "DescribeText$Token" "TIMES" "LDescribeText$Token;") "DescribeText$Token") ∈ flatC (Jvm.Cond.and given_1 narrow_1) := List.mem_of_getElem? (i := 186) (by rfl)
set_option maxRecDepth 100000 in
theorem nw_187 : (Jvm.Cond.eq (Jvm.Term.field (Jvm.Term.static "DescribeText$Token" "TIMES" "LDescribeText$Token;") "java/lang/Enum" "ordinal" "I") (Jvm.Term.int (21 : Int32))) ∈ flatC (Jvm.Cond.and given_1 narrow_1) := List.mem_of_getElem? (i := 187) (by rfl)
set_option maxRecDepth 100000 in
theorem nw_189 : (Jvm.Cond.eq (Jvm.Term.field (Jvm.Term.static "DescribeText$Token" "TIMES" "LDescribeText$Token;") "DescribeText$Token" "takes" "I") (Jvm.Term.int (0 : Int32))) ∈ flatC (Jvm.Cond.and given_1 narrow_1) := List.mem_of_getElem? (i := 189) (by rfl)
set_option maxRecDepth 100000 in
theorem nw_190 : (Jvm.Cond.eq (Jvm.Term.field (Jvm.Term.static "DescribeText$Token" "TIMES" "LDescribeText$Token;") "DescribeText$Token" "lays" "I") (Jvm.Term.int (0 : Int32))) ∈ flatC (Jvm.Cond.and given_1 narrow_1) := List.mem_of_getElem? (i := 190) (by rfl)
set_option maxRecDepth 100000 in
theorem nw_191 : (Jvm.Cond.exactly (Jvm.Term.static "DescribeText$Token" "WHILE" "LDescribeText$Token;") "DescribeText$Token") ∈ flatC (Jvm.Cond.and given_1 narrow_1) := List.mem_of_getElem? (i := 191) (by rfl)
set_option maxRecDepth 100000 in
theorem nw_192 : (Jvm.Cond.eq (Jvm.Term.field (Jvm.Term.static "DescribeText$Token" "WHILE" "LDescribeText$Token;") "java/lang/Enum" "ordinal" "I") (Jvm.Term.int (34 : Int32))) ∈ flatC (Jvm.Cond.and given_1 narrow_1) := List.mem_of_getElem? (i := 192) (by rfl)
set_option maxRecDepth 100000 in
theorem nw_194 : (Jvm.Cond.eq (Jvm.Term.field (Jvm.Term.static "DescribeText$Token" "WHILE" "LDescribeText$Token;") "DescribeText$Token" "takes" "I") (Jvm.Term.int (1 : Int32))) ∈ flatC (Jvm.Cond.and given_1 narrow_1) := List.mem_of_getElem? (i := 194) (by rfl)
set_option maxRecDepth 100000 in
theorem nw_195 : (Jvm.Cond.eq (Jvm.Term.field (Jvm.Term.static "DescribeText$Token" "WHILE" "LDescribeText$Token;") "DescribeText$Token" "lays" "I") (Jvm.Term.int (0 : Int32))) ∈ flatC (Jvm.Cond.and given_1 narrow_1) := List.mem_of_getElem? (i := 195) (by rfl)
set_option maxRecDepth 100000 in
theorem nw_196 : (Jvm.Cond.exactly (Jvm.Term.static "DescribeText$Token" "PUT" "LDescribeText$Token;") "DescribeText$Token") ∈ flatC (Jvm.Cond.and given_1 narrow_1) := List.mem_of_getElem? (i := 196) (by rfl)
set_option maxRecDepth 100000 in
theorem nw_197 : (Jvm.Cond.eq (Jvm.Term.field (Jvm.Term.static "DescribeText$Token" "PUT" "LDescribeText$Token;") "java/lang/Enum" "ordinal" "I") (Jvm.Term.int (25 : Int32))) ∈ flatC (Jvm.Cond.and given_1 narrow_1) := List.mem_of_getElem? (i := 197) (by rfl)
set_option maxRecDepth 100000 in
theorem nw_199 : (Jvm.Cond.eq (Jvm.Term.field (Jvm.Term.static "DescribeText$Token" "PUT" "LDescribeText$Token;") "DescribeText$Token" "takes" "I") (Jvm.Term.int (0 : Int32))) ∈ flatC (Jvm.Cond.and given_1 narrow_1) := List.mem_of_getElem? (i := 199) (by rfl)
set_option maxRecDepth 100000 in
theorem nw_200 : (Jvm.Cond.eq (Jvm.Term.field (Jvm.Term.static "DescribeText$Token" "PUT" "LDescribeText$Token;") "DescribeText$Token" "lays" "I") (Jvm.Term.int (1 : Int32))) ∈ flatC (Jvm.Cond.and given_1 narrow_1) := List.mem_of_getElem? (i := 200) (by rfl)
set_option maxRecDepth 100000 in
theorem nw_201 : (Jvm.Cond.exactly (Jvm.Term.static "DescribeText$Token" "GET" "LDescribeText$Token;") "DescribeText$Token") ∈ flatC (Jvm.Cond.and given_1 narrow_1) := List.mem_of_getElem? (i := 201) (by rfl)
set_option maxRecDepth 100000 in
theorem nw_202 : (Jvm.Cond.eq (Jvm.Term.field (Jvm.Term.static "DescribeText$Token" "GET" "LDescribeText$Token;") "java/lang/Enum" "ordinal" "I") (Jvm.Term.int (26 : Int32))) ∈ flatC (Jvm.Cond.and given_1 narrow_1) := List.mem_of_getElem? (i := 202) (by rfl)
set_option maxRecDepth 100000 in
theorem nw_204 : (Jvm.Cond.eq (Jvm.Term.field (Jvm.Term.static "DescribeText$Token" "GET" "LDescribeText$Token;") "DescribeText$Token" "takes" "I") (Jvm.Term.int (0 : Int32))) ∈ flatC (Jvm.Cond.and given_1 narrow_1) := List.mem_of_getElem? (i := 204) (by rfl)
set_option maxRecDepth 100000 in
theorem nw_205 : (Jvm.Cond.eq (Jvm.Term.field (Jvm.Term.static "DescribeText$Token" "GET" "LDescribeText$Token;") "DescribeText$Token" "lays" "I") (Jvm.Term.int (1 : Int32))) ∈ flatC (Jvm.Cond.and given_1 narrow_1) := List.mem_of_getElem? (i := 205) (by rfl)
set_option maxRecDepth 100000 in
theorem nw_206 : (Jvm.Cond.exactly (Jvm.Term.static "DescribeText$Token" "SEND" "LDescribeText$Token;") "DescribeText$Token") ∈ flatC (Jvm.Cond.and given_1 narrow_1) := List.mem_of_getElem? (i := 206) (by rfl)
set_option maxRecDepth 100000 in
theorem nw_207 : (Jvm.Cond.eq (Jvm.Term.field (Jvm.Term.static "DescribeText$Token" "SEND" "LDescribeText$Token;") "java/lang/Enum" "ordinal" "I") (Jvm.Term.int (33 : Int32))) ∈ flatC (Jvm.Cond.and given_1 narrow_1) := List.mem_of_getElem? (i := 207) (by rfl)
set_option maxRecDepth 100000 in
theorem nw_209 : (Jvm.Cond.eq (Jvm.Term.field (Jvm.Term.static "DescribeText$Token" "SEND" "LDescribeText$Token;") "DescribeText$Token" "takes" "I") (Jvm.Term.int (1 : Int32))) ∈ flatC (Jvm.Cond.and given_1 narrow_1) := List.mem_of_getElem? (i := 209) (by rfl)
set_option maxRecDepth 100000 in
theorem nw_210 : (Jvm.Cond.eq (Jvm.Term.field (Jvm.Term.static "DescribeText$Token" "SEND" "LDescribeText$Token;") "DescribeText$Token" "lays" "I") (Jvm.Term.int (0 : Int32))) ∈ flatC (Jvm.Cond.and given_1 narrow_1) := List.mem_of_getElem? (i := 210) (by rfl)
set_option maxRecDepth 100000 in
theorem nw_213 : (Jvm.Cond.exactly (Jvm.Term.static "DescribeText$Token" "CODING" "LDescribeText$Token;") "DescribeText$Token") ∈ flatC (Jvm.Cond.and given_1 narrow_1) := List.mem_of_getElem? (i := 213) (by rfl)
set_option maxRecDepth 100000 in
theorem nw_214 : (Jvm.Cond.eq (Jvm.Term.field (Jvm.Term.static "DescribeText$Token" "CODING" "LDescribeText$Token;") "java/lang/Enum" "ordinal" "I") (Jvm.Term.int (11 : Int32))) ∈ flatC (Jvm.Cond.and given_1 narrow_1) := List.mem_of_getElem? (i := 214) (by rfl)
set_option maxRecDepth 100000 in
theorem nw_216 : (Jvm.Cond.eq (Jvm.Term.field (Jvm.Term.static "DescribeText$Token" "CODING" "LDescribeText$Token;") "DescribeText$Token" "takes" "I") (Jvm.Term.int (0 : Int32))) ∈ flatC (Jvm.Cond.and given_1 narrow_1) := List.mem_of_getElem? (i := 216) (by rfl)
set_option maxRecDepth 100000 in
theorem nw_217 : (Jvm.Cond.eq (Jvm.Term.field (Jvm.Term.static "DescribeText$Token" "CODING" "LDescribeText$Token;") "DescribeText$Token" "lays" "I") (Jvm.Term.int (0 : Int32))) ∈ flatC (Jvm.Cond.and given_1 narrow_1) := List.mem_of_getElem? (i := 217) (by rfl)
set_option maxRecDepth 100000 in
theorem nw_218 : (Jvm.Cond.exactly (Jvm.Term.static "DescribeText$Token" "LAYER" "LDescribeText$Token;") "DescribeText$Token") ∈ flatC (Jvm.Cond.and given_1 narrow_1) := List.mem_of_getElem? (i := 218) (by rfl)
set_option maxRecDepth 100000 in
theorem nw_219 : (Jvm.Cond.eq (Jvm.Term.field (Jvm.Term.static "DescribeText$Token" "LAYER" "LDescribeText$Token;") "java/lang/Enum" "ordinal" "I") (Jvm.Term.int (16 : Int32))) ∈ flatC (Jvm.Cond.and given_1 narrow_1) := List.mem_of_getElem? (i := 219) (by rfl)
set_option maxRecDepth 100000 in
theorem nw_221 : (Jvm.Cond.eq (Jvm.Term.field (Jvm.Term.static "DescribeText$Token" "LAYER" "LDescribeText$Token;") "DescribeText$Token" "takes" "I") (Jvm.Term.int (0 : Int32))) ∈ flatC (Jvm.Cond.and given_1 narrow_1) := List.mem_of_getElem? (i := 221) (by rfl)
set_option maxRecDepth 100000 in
theorem nw_222 : (Jvm.Cond.eq (Jvm.Term.field (Jvm.Term.static "DescribeText$Token" "LAYER" "LDescribeText$Token;") "DescribeText$Token" "lays" "I") (Jvm.Term.int (0 : Int32))) ∈ flatC (Jvm.Cond.and given_1 narrow_1) := List.mem_of_getElem? (i := 222) (by rfl)
set_option maxRecDepth 100000 in
theorem nw_223 : (Jvm.Cond.exactly (Jvm.Term.static "DescribeText$Token" "CODE" "LDescribeText$Token;") "DescribeText$Token") ∈ flatC (Jvm.Cond.and given_1 narrow_1) := List.mem_of_getElem? (i := 223) (by rfl)
set_option maxRecDepth 100000 in
theorem nw_224 : (Jvm.Cond.eq (Jvm.Term.field (Jvm.Term.static "DescribeText$Token" "CODE" "LDescribeText$Token;") "java/lang/Enum" "ordinal" "I") (Jvm.Term.int (22 : Int32))) ∈ flatC (Jvm.Cond.and given_1 narrow_1) := List.mem_of_getElem? (i := 224) (by rfl)
set_option maxRecDepth 100000 in
theorem nw_226 : (Jvm.Cond.eq (Jvm.Term.field (Jvm.Term.static "DescribeText$Token" "CODE" "LDescribeText$Token;") "DescribeText$Token" "takes" "I") (Jvm.Term.int (0 : Int32))) ∈ flatC (Jvm.Cond.and given_1 narrow_1) := List.mem_of_getElem? (i := 226) (by rfl)
set_option maxRecDepth 100000 in
theorem nw_227 : (Jvm.Cond.eq (Jvm.Term.field (Jvm.Term.static "DescribeText$Token" "CODE" "LDescribeText$Token;") "DescribeText$Token" "lays" "I") (Jvm.Term.int (0 : Int32))) ∈ flatC (Jvm.Cond.and given_1 narrow_1) := List.mem_of_getElem? (i := 227) (by rfl)
set_option maxRecDepth 100000 in
theorem nw_228 : (Jvm.Cond.exactly (Jvm.Term.static "DescribeText$Token" "VARIANT" "LDescribeText$Token;") "DescribeText$Token") ∈ flatC (Jvm.Cond.and given_1 narrow_1) := List.mem_of_getElem? (i := 228) (by rfl)
set_option maxRecDepth 100000 in
theorem nw_229 : (Jvm.Cond.eq (Jvm.Term.field (Jvm.Term.static "DescribeText$Token" "VARIANT" "LDescribeText$Token;") "java/lang/Enum" "ordinal" "I") (Jvm.Term.int (23 : Int32))) ∈ flatC (Jvm.Cond.and given_1 narrow_1) := List.mem_of_getElem? (i := 229) (by rfl)
set_option maxRecDepth 100000 in
theorem nw_231 : (Jvm.Cond.eq (Jvm.Term.field (Jvm.Term.static "DescribeText$Token" "VARIANT" "LDescribeText$Token;") "DescribeText$Token" "takes" "I") (Jvm.Term.int (0 : Int32))) ∈ flatC (Jvm.Cond.and given_1 narrow_1) := List.mem_of_getElem? (i := 231) (by rfl)
set_option maxRecDepth 100000 in
theorem nw_232 : (Jvm.Cond.eq (Jvm.Term.field (Jvm.Term.static "DescribeText$Token" "VARIANT" "LDescribeText$Token;") "DescribeText$Token" "lays" "I") (Jvm.Term.int (0 : Int32))) ∈ flatC (Jvm.Cond.and given_1 narrow_1) := List.mem_of_getElem? (i := 232) (by rfl)
set_option maxRecDepth 100000 in
theorem nw_233 : (Jvm.Cond.exactly (Jvm.Term.static "DescribeText$Token" "JOB" "LDescribeText$Token;") "DescribeText$Token") ∈ flatC (Jvm.Cond.and given_1 narrow_1) := List.mem_of_getElem? (i := 233) (by rfl)
set_option maxRecDepth 100000 in
theorem nw_234 : (Jvm.Cond.eq (Jvm.Term.field (Jvm.Term.static "DescribeText$Token" "JOB" "LDescribeText$Token;") "java/lang/Enum" "ordinal" "I") (Jvm.Term.int (24 : Int32))) ∈ flatC (Jvm.Cond.and given_1 narrow_1) := List.mem_of_getElem? (i := 234) (by rfl)
set_option maxRecDepth 100000 in
theorem nw_236 : (Jvm.Cond.eq (Jvm.Term.field (Jvm.Term.static "DescribeText$Token" "JOB" "LDescribeText$Token;") "DescribeText$Token" "takes" "I") (Jvm.Term.int (0 : Int32))) ∈ flatC (Jvm.Cond.and given_1 narrow_1) := List.mem_of_getElem? (i := 236) (by rfl)
set_option maxRecDepth 100000 in
theorem nw_237 : (Jvm.Cond.eq (Jvm.Term.field (Jvm.Term.static "DescribeText$Token" "JOB" "LDescribeText$Token;") "DescribeText$Token" "lays" "I") (Jvm.Term.int (0 : Int32))) ∈ flatC (Jvm.Cond.and given_1 narrow_1) := List.mem_of_getElem? (i := 237) (by rfl)
set_option maxRecDepth 100000 in
theorem nw_238 : (Jvm.Cond.exactly (Jvm.Term.static "DescribeText$Token" "ADD" "LDescribeText$Token;") "DescribeText$Token") ∈ flatC (Jvm.Cond.and given_1 narrow_1) := List.mem_of_getElem? (i := 238) (by rfl)
set_option maxRecDepth 100000 in
theorem nw_239 : (Jvm.Cond.eq (Jvm.Term.field (Jvm.Term.static "DescribeText$Token" "ADD" "LDescribeText$Token;") "java/lang/Enum" "ordinal" "I") (Jvm.Term.int (27 : Int32))) ∈ flatC (Jvm.Cond.and given_1 narrow_1) := List.mem_of_getElem? (i := 239) (by rfl)
set_option maxRecDepth 100000 in
theorem nw_241 : (Jvm.Cond.eq (Jvm.Term.field (Jvm.Term.static "DescribeText$Token" "ADD" "LDescribeText$Token;") "DescribeText$Token" "takes" "I") (Jvm.Term.int (2 : Int32))) ∈ flatC (Jvm.Cond.and given_1 narrow_1) := List.mem_of_getElem? (i := 241) (by rfl)
set_option maxRecDepth 100000 in
theorem nw_242 : (Jvm.Cond.eq (Jvm.Term.field (Jvm.Term.static "DescribeText$Token" "ADD" "LDescribeText$Token;") "DescribeText$Token" "lays" "I") (Jvm.Term.int (1 : Int32))) ∈ flatC (Jvm.Cond.and given_1 narrow_1) := List.mem_of_getElem? (i := 242) (by rfl)
set_option maxRecDepth 100000 in
theorem nw_243 : (Jvm.Cond.exactly (Jvm.Term.static "DescribeText$Token" "SUB" "LDescribeText$Token;") "DescribeText$Token") ∈ flatC (Jvm.Cond.and given_1 narrow_1) := List.mem_of_getElem? (i := 243) (by rfl)
set_option maxRecDepth 100000 in
theorem nw_244 : (Jvm.Cond.eq (Jvm.Term.field (Jvm.Term.static "DescribeText$Token" "SUB" "LDescribeText$Token;") "java/lang/Enum" "ordinal" "I") (Jvm.Term.int (28 : Int32))) ∈ flatC (Jvm.Cond.and given_1 narrow_1) := List.mem_of_getElem? (i := 244) (by rfl)
set_option maxRecDepth 100000 in
theorem nw_246 : (Jvm.Cond.eq (Jvm.Term.field (Jvm.Term.static "DescribeText$Token" "SUB" "LDescribeText$Token;") "DescribeText$Token" "takes" "I") (Jvm.Term.int (2 : Int32))) ∈ flatC (Jvm.Cond.and given_1 narrow_1) := List.mem_of_getElem? (i := 246) (by rfl)
set_option maxRecDepth 100000 in
theorem nw_247 : (Jvm.Cond.eq (Jvm.Term.field (Jvm.Term.static "DescribeText$Token" "SUB" "LDescribeText$Token;") "DescribeText$Token" "lays" "I") (Jvm.Term.int (1 : Int32))) ∈ flatC (Jvm.Cond.and given_1 narrow_1) := List.mem_of_getElem? (i := 247) (by rfl)
set_option maxRecDepth 100000 in
theorem nw_248 : (Jvm.Cond.exactly (Jvm.Term.static "DescribeText$Token" "MUL" "LDescribeText$Token;") "DescribeText$Token") ∈ flatC (Jvm.Cond.and given_1 narrow_1) := List.mem_of_getElem? (i := 248) (by rfl)
set_option maxRecDepth 100000 in
theorem nw_249 : (Jvm.Cond.eq (Jvm.Term.field (Jvm.Term.static "DescribeText$Token" "MUL" "LDescribeText$Token;") "java/lang/Enum" "ordinal" "I") (Jvm.Term.int (29 : Int32))) ∈ flatC (Jvm.Cond.and given_1 narrow_1) := List.mem_of_getElem? (i := 249) (by rfl)
set_option maxRecDepth 100000 in
theorem nw_251 : (Jvm.Cond.eq (Jvm.Term.field (Jvm.Term.static "DescribeText$Token" "MUL" "LDescribeText$Token;") "DescribeText$Token" "takes" "I") (Jvm.Term.int (2 : Int32))) ∈ flatC (Jvm.Cond.and given_1 narrow_1) := List.mem_of_getElem? (i := 251) (by rfl)
set_option maxRecDepth 100000 in
theorem nw_252 : (Jvm.Cond.eq (Jvm.Term.field (Jvm.Term.static "DescribeText$Token" "MUL" "LDescribeText$Token;") "DescribeText$Token" "lays" "I") (Jvm.Term.int (1 : Int32))) ∈ flatC (Jvm.Cond.and given_1 narrow_1) := List.mem_of_getElem? (i := 252) (by rfl)
set_option maxRecDepth 100000 in
theorem nw_253 : (Jvm.Cond.exactly (Jvm.Term.static "DescribeText$Token" "DUP" "LDescribeText$Token;") "DescribeText$Token") ∈ flatC (Jvm.Cond.and given_1 narrow_1) := List.mem_of_getElem? (i := 253) (by rfl)
set_option maxRecDepth 100000 in
theorem nw_254 : (Jvm.Cond.eq (Jvm.Term.field (Jvm.Term.static "DescribeText$Token" "DUP" "LDescribeText$Token;") "java/lang/Enum" "ordinal" "I") (Jvm.Term.int (30 : Int32))) ∈ flatC (Jvm.Cond.and given_1 narrow_1) := List.mem_of_getElem? (i := 254) (by rfl)
set_option maxRecDepth 100000 in
theorem nw_256 : (Jvm.Cond.eq (Jvm.Term.field (Jvm.Term.static "DescribeText$Token" "DUP" "LDescribeText$Token;") "DescribeText$Token" "takes" "I") (Jvm.Term.int (1 : Int32))) ∈ flatC (Jvm.Cond.and given_1 narrow_1) := List.mem_of_getElem? (i := 256) (by rfl)
set_option maxRecDepth 100000 in
theorem nw_257 : (Jvm.Cond.eq (Jvm.Term.field (Jvm.Term.static "DescribeText$Token" "DUP" "LDescribeText$Token;") "DescribeText$Token" "lays" "I") (Jvm.Term.int (2 : Int32))) ∈ flatC (Jvm.Cond.and given_1 narrow_1) := List.mem_of_getElem? (i := 257) (by rfl)
set_option maxRecDepth 100000 in
theorem nw_258 : (Jvm.Cond.exactly (Jvm.Term.static "DescribeText$Token" "SWAP" "LDescribeText$Token;") "DescribeText$Token") ∈ flatC (Jvm.Cond.and given_1 narrow_1) := List.mem_of_getElem? (i := 258) (by rfl)
set_option maxRecDepth 100000 in
theorem nw_259 : (Jvm.Cond.eq (Jvm.Term.field (Jvm.Term.static "DescribeText$Token" "SWAP" "LDescribeText$Token;") "java/lang/Enum" "ordinal" "I") (Jvm.Term.int (31 : Int32))) ∈ flatC (Jvm.Cond.and given_1 narrow_1) := List.mem_of_getElem? (i := 259) (by rfl)
set_option maxRecDepth 100000 in
theorem nw_261 : (Jvm.Cond.eq (Jvm.Term.field (Jvm.Term.static "DescribeText$Token" "SWAP" "LDescribeText$Token;") "DescribeText$Token" "takes" "I") (Jvm.Term.int (2 : Int32))) ∈ flatC (Jvm.Cond.and given_1 narrow_1) := List.mem_of_getElem? (i := 261) (by rfl)
set_option maxRecDepth 100000 in
theorem nw_262 : (Jvm.Cond.eq (Jvm.Term.field (Jvm.Term.static "DescribeText$Token" "SWAP" "LDescribeText$Token;") "DescribeText$Token" "lays" "I") (Jvm.Term.int (2 : Int32))) ∈ flatC (Jvm.Cond.and given_1 narrow_1) := List.mem_of_getElem? (i := 262) (by rfl)
set_option maxRecDepth 100000 in
theorem nw_263 : (Jvm.Cond.exactly (Jvm.Term.static "DescribeText$Token" "DROP" "LDescribeText$Token;") "DescribeText$Token") ∈ flatC (Jvm.Cond.and given_1 narrow_1) := List.mem_of_getElem? (i := 263) (by rfl)
set_option maxRecDepth 100000 in
theorem nw_264 : (Jvm.Cond.eq (Jvm.Term.field (Jvm.Term.static "DescribeText$Token" "DROP" "LDescribeText$Token;") "java/lang/Enum" "ordinal" "I") (Jvm.Term.int (32 : Int32))) ∈ flatC (Jvm.Cond.and given_1 narrow_1) := List.mem_of_getElem? (i := 264) (by rfl)
set_option maxRecDepth 100000 in
theorem nw_266 : (Jvm.Cond.eq (Jvm.Term.field (Jvm.Term.static "DescribeText$Token" "DROP" "LDescribeText$Token;") "DescribeText$Token" "takes" "I") (Jvm.Term.int (1 : Int32))) ∈ flatC (Jvm.Cond.and given_1 narrow_1) := List.mem_of_getElem? (i := 266) (by rfl)
set_option maxRecDepth 100000 in
theorem nw_267 : (Jvm.Cond.eq (Jvm.Term.field (Jvm.Term.static "DescribeText$Token" "DROP" "LDescribeText$Token;") "DescribeText$Token" "lays" "I") (Jvm.Term.int (0 : Int32))) ∈ flatC (Jvm.Cond.and given_1 narrow_1) := List.mem_of_getElem? (i := 267) (by rfl)