theorem tw_199 : ((Jvm.Cond.fieldLink "DescribeText$Octets" (9 : Nat) "DescribeText$Octets" "row" "[B") : Cond) ∈ lw_tbl := List.mem_of_getElem? (i := 199) (by decide +kernel)
theorem tw_200 : ((Jvm.Cond.fieldLink "DescribeText$Octets" (15 : Nat) "DescribeText$Octets" "length" "I") : Cond) ∈ lw_tbl := List.mem_of_getElem? (i := 200) (by decide +kernel)
set_option maxRecDepth 100000 in
theorem fX6 : ∀ w ∈ u_ws RX6 TX6 2, w ∈ lw_tbl ∧ (tb_ok w && w.onTables) = true := by decide +kernel
