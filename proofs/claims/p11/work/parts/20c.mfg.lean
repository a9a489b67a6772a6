theorem mfs_g0 (Ar : Nat → Nat) (Iv : Nat → Int32) : (mfs Ar Iv)[0]? = some (.ref (Ar 0)) := rfl
theorem mfs_g1 (Ar : Nat → Nat) (Iv : Nat → Int32) : (mfs Ar Iv)[1]? = some (.ref (Ar 1)) := rfl
theorem mfs_g2 (Ar : Nat → Nat) (Iv : Nat → Int32) : (mfs Ar Iv)[2]? = some (.ref (Ar 2)) := rfl
theorem mfs_g3 (Ar : Nat → Nat) (Iv : Nat → Int32) : (mfs Ar Iv)[3]? = some (.ref (Ar 3)) := rfl
theorem mfs_g4 (Ar : Nat → Nat) (Iv : Nat → Int32) : (mfs Ar Iv)[4]? = some (.ref (Ar 4)) := rfl
theorem mfs_g5 (Ar : Nat → Nat) (Iv : Nat → Int32) : (mfs Ar Iv)[5]? = some (.ref (Ar 5)) := rfl
theorem mfs_g6 (Ar : Nat → Nat) (Iv : Nat → Int32) : (mfs Ar Iv)[6]? = some (.ref (Ar 6)) := rfl
theorem mfs_g7 (Ar : Nat → Nat) (Iv : Nat → Int32) : (mfs Ar Iv)[7]? = some (.ref (Ar 7)) := rfl
theorem mfs_g8 (Ar : Nat → Nat) (Iv : Nat → Int32) : (mfs Ar Iv)[8]? = some (.ref (Ar 8)) := rfl
theorem mfs_g9 (Ar : Nat → Nat) (Iv : Nat → Int32) : (mfs Ar Iv)[9]? = some (.ref (Ar 9)) := rfl
theorem mfs_g10 (Ar : Nat → Nat) (Iv : Nat → Int32) : (mfs Ar Iv)[10]? = some (.ref (Ar 10)) := rfl
theorem mfs_g11 (Ar : Nat → Nat) (Iv : Nat → Int32) : (mfs Ar Iv)[11]? = some (.ref (Ar 11)) := rfl
theorem mfs_g12 (Ar : Nat → Nat) (Iv : Nat → Int32) : (mfs Ar Iv)[12]? = some (.ref (Ar 12)) := rfl
theorem mfs_g13 (Ar : Nat → Nat) (Iv : Nat → Int32) : (mfs Ar Iv)[13]? = some (.ref (Ar 13)) := rfl
theorem mfs_g14 (Ar : Nat → Nat) (Iv : Nat → Int32) : (mfs Ar Iv)[14]? = some (.ref (Ar 14)) := rfl
theorem mfs_g15 (Ar : Nat → Nat) (Iv : Nat → Int32) : (mfs Ar Iv)[15]? = some (.ref (Ar 15)) := rfl
theorem mfs_g16 (Ar : Nat → Nat) (Iv : Nat → Int32) : (mfs Ar Iv)[16]? = some (.ref (Ar 16)) := rfl
theorem mfs_g17 (Ar : Nat → Nat) (Iv : Nat → Int32) : (mfs Ar Iv)[17]? = some (.ref (Ar 17)) := rfl
theorem mfs_g18 (Ar : Nat → Nat) (Iv : Nat → Int32) : (mfs Ar Iv)[18]? = some (.ref (Ar 18)) := rfl
theorem mfs_g19 (Ar : Nat → Nat) (Iv : Nat → Int32) : (mfs Ar Iv)[19]? = some (.ref (Ar 19)) := rfl
theorem mfs_g20 (Ar : Nat → Nat) (Iv : Nat → Int32) : (mfs Ar Iv)[20]? = some (.ref (Ar 20)) := rfl
theorem mfs_g21 (Ar : Nat → Nat) (Iv : Nat → Int32) : (mfs Ar Iv)[21]? = some (.ref (Ar 21)) := rfl
theorem mfs_g22 (Ar : Nat → Nat) (Iv : Nat → Int32) : (mfs Ar Iv)[22]? = some (.ref (Ar 22)) := rfl
theorem mfs_g23 (Ar : Nat → Nat) (Iv : Nat → Int32) : (mfs Ar Iv)[23]? = some (.ref (Ar 23)) := rfl
theorem mfs_g24 (Ar : Nat → Nat) (Iv : Nat → Int32) : (mfs Ar Iv)[24]? = some (.ref (Ar 24)) := rfl
theorem mfs_g25 (Ar : Nat → Nat) (Iv : Nat → Int32) : (mfs Ar Iv)[25]? = some (.ref (Ar 25)) := rfl
theorem mfs_g26 (Ar : Nat → Nat) (Iv : Nat → Int32) : (mfs Ar Iv)[26]? = some (.ref (Ar 26)) := rfl
theorem mfs_g27 (Ar : Nat → Nat) (Iv : Nat → Int32) : (mfs Ar Iv)[27]? = some (.ref (Ar 27)) := rfl
theorem mfs_g28 (Ar : Nat → Nat) (Iv : Nat → Int32) : (mfs Ar Iv)[28]? = some (.ref (Ar 28)) := rfl
theorem mfs_g29 (Ar : Nat → Nat) (Iv : Nat → Int32) : (mfs Ar Iv)[29]? = some (.ref (Ar 29)) := rfl
theorem mfs_g30 (Ar : Nat → Nat) (Iv : Nat → Int32) : (mfs Ar Iv)[30]? = some (.ref (Ar 30)) := rfl
theorem mfs_g31 (Ar : Nat → Nat) (Iv : Nat → Int32) : (mfs Ar Iv)[31]? = some (.ref (Ar 31)) := rfl
theorem mfs_g32 (Ar : Nat → Nat) (Iv : Nat → Int32) : (mfs Ar Iv)[32]? = some (.ref (Ar 32)) := rfl
theorem mfs_g33 (Ar : Nat → Nat) (Iv : Nat → Int32) : (mfs Ar Iv)[33]? = some (.ref (Ar 33)) := rfl
theorem mfs_g34 (Ar : Nat → Nat) (Iv : Nat → Int32) : (mfs Ar Iv)[34]? = some (.ref (Ar 34)) := rfl
theorem mfs_g35 (Ar : Nat → Nat) (Iv : Nat → Int32) : (mfs Ar Iv)[35]? = some (.ref (Ar 35)) := rfl
theorem mfs_g36 (Ar : Nat → Nat) (Iv : Nat → Int32) : (mfs Ar Iv)[36]? = some (.ref (Ar 36)) := rfl
theorem mfs_g37 (Ar : Nat → Nat) (Iv : Nat → Int32) : (mfs Ar Iv)[37]? = some (.ref (Ar 37)) := rfl
theorem mfs_g38 (Ar : Nat → Nat) (Iv : Nat → Int32) : (mfs Ar Iv)[38]? = some (.int (Iv 38)) := rfl
theorem mfs_g39 (Ar : Nat → Nat) (Iv : Nat → Int32) : (mfs Ar Iv)[39]? = some (.int (Iv 39)) := rfl
theorem mfs_g40 (Ar : Nat → Nat) (Iv : Nat → Int32) : (mfs Ar Iv)[40]? = some (.ref (Ar 40)) := rfl
theorem mfs_g41 (Ar : Nat → Nat) (Iv : Nat → Int32) : (mfs Ar Iv)[41]? = some (.int (Iv 41)) := rfl
theorem mfs_g42 (Ar : Nat → Nat) (Iv : Nat → Int32) : (mfs Ar Iv)[42]? = some (.int (Iv 42)) := rfl
theorem mfs_g43 (Ar : Nat → Nat) (Iv : Nat → Int32) : (mfs Ar Iv)[43]? = some (.int (Iv 43)) := rfl
theorem mfs_g44 (Ar : Nat → Nat) (Iv : Nat → Int32) : (mfs Ar Iv)[44]? = some (.int (Iv 44)) := rfl
theorem mfs_g45 (Ar : Nat → Nat) (Iv : Nat → Int32) : (mfs Ar Iv)[45]? = some (.ref (Ar 45)) := rfl
theorem mfs_g46 (Ar : Nat → Nat) (Iv : Nat → Int32) : (mfs Ar Iv)[46]? = some (.ref (Ar 46)) := rfl
theorem mfs_g47 (Ar : Nat → Nat) (Iv : Nat → Int32) : (mfs Ar Iv)[47]? = some (.ref (Ar 47)) := rfl
theorem mfs_g49 (Ar : Nat → Nat) (Iv : Nat → Int32) : (mfs Ar Iv)[49]? = some (.int (Iv 49)) := rfl
theorem mfs_g50 (Ar : Nat → Nat) (Iv : Nat → Int32) : (mfs Ar Iv)[50]? = some (.int (Iv 50)) := rfl
theorem mfs_g51 (Ar : Nat → Nat) (Iv : Nat → Int32) : (mfs Ar Iv)[51]? = some (.int (Iv 51)) := rfl
theorem mfs_g52 (Ar : Nat → Nat) (Iv : Nat → Int32) : (mfs Ar Iv)[52]? = some (.int (Iv 52)) := rfl
theorem mfs_g53 (Ar : Nat → Nat) (Iv : Nat → Int32) : (mfs Ar Iv)[53]? = some (.int (Iv 53)) := rfl
theorem mfs_g54 (Ar : Nat → Nat) (Iv : Nat → Int32) : (mfs Ar Iv)[54]? = some (.int (Iv 54)) := rfl
theorem mfs_g55 (Ar : Nat → Nat) (Iv : Nat → Int32) : (mfs Ar Iv)[55]? = some (.int (Iv 55)) := rfl
theorem mfs_g56 (Ar : Nat → Nat) (Iv : Nat → Int32) : (mfs Ar Iv)[56]? = some (.int (Iv 56)) := rfl
theorem mfs_g57 (Ar : Nat → Nat) (Iv : Nat → Int32) : (mfs Ar Iv)[57]? = some (.int (Iv 57)) := rfl
theorem mfs_g58 (Ar : Nat → Nat) (Iv : Nat → Int32) : (mfs Ar Iv)[58]? = some (.int (Iv 58)) := rfl
theorem mfs_g59 (Ar : Nat → Nat) (Iv : Nat → Int32) : (mfs Ar Iv)[59]? = some (.ref (Ar 59)) := rfl
theorem mfs_g60 (Ar : Nat → Nat) (Iv : Nat → Int32) : (mfs Ar Iv)[60]? = some (.ref (Ar 60)) := rfl
theorem mfs_g61 (Ar : Nat → Nat) (Iv : Nat → Int32) : (mfs Ar Iv)[61]? = some (.ref (Ar 61)) := rfl
theorem mfs_g62 (Ar : Nat → Nat) (Iv : Nat → Int32) : (mfs Ar Iv)[62]? = some (.ref (Ar 62)) := rfl
theorem mfs_g63 (Ar : Nat → Nat) (Iv : Nat → Int32) : (mfs Ar Iv)[63]? = some (.int (Iv 63)) := rfl
theorem mfs_g64 (Ar : Nat → Nat) (Iv : Nat → Int32) : (mfs Ar Iv)[64]? = some (.ref (Ar 64)) := rfl
theorem mfs_g65 (Ar : Nat → Nat) (Iv : Nat → Int32) : (mfs Ar Iv)[65]? = some (.ref (Ar 65)) := rfl
theorem mfs_g66 (Ar : Nat → Nat) (Iv : Nat → Int32) : (mfs Ar Iv)[66]? = some (.int (Iv 66)) := rfl
theorem mfs_g67 (Ar : Nat → Nat) (Iv : Nat → Int32) : (mfs Ar Iv)[67]? = some (.ref (Ar 67)) := rfl
theorem mfs_g68 (Ar : Nat → Nat) (Iv : Nat → Int32) : (mfs Ar Iv)[68]? = some (.int (Iv 68)) := rfl
theorem mfs_g69 (Ar : Nat → Nat) (Iv : Nat → Int32) : (mfs Ar Iv)[69]? = some (.int (Iv 69)) := rfl
theorem mfs_g70 (Ar : Nat → Nat) (Iv : Nat → Int32) : (mfs Ar Iv)[70]? = some (.ref (Ar 70)) := rfl
theorem mfs_g71 (Ar : Nat → Nat) (Iv : Nat → Int32) : (mfs Ar Iv)[71]? = some (.ref (Ar 71)) := rfl
theorem mfs_g72 (Ar : Nat → Nat) (Iv : Nat → Int32) : (mfs Ar Iv)[72]? = some (.ref (Ar 72)) := rfl
theorem mfs_g73 (Ar : Nat → Nat) (Iv : Nat → Int32) : (mfs Ar Iv)[73]? = some (.ref (Ar 73)) := rfl
theorem mfs_g74 (Ar : Nat → Nat) (Iv : Nat → Int32) : (mfs Ar Iv)[74]? = some (.ref (Ar 74)) := rfl
theorem mfs_g75 (Ar : Nat → Nat) (Iv : Nat → Int32) : (mfs Ar Iv)[75]? = some (.ref (Ar 75)) := rfl
theorem mfs_l38 (Ar : Nat → Nat) (Iv : Nat → Int32) : 38 < (mfs Ar Iv).length := Nat.le_of_ble_eq_true rfl
theorem mfs_l39 (Ar : Nat → Nat) (Iv : Nat → Int32) : 39 < (mfs Ar Iv).length := Nat.le_of_ble_eq_true rfl
theorem mfs_l41 (Ar : Nat → Nat) (Iv : Nat → Int32) : 41 < (mfs Ar Iv).length := Nat.le_of_ble_eq_true rfl
theorem mfs_l42 (Ar : Nat → Nat) (Iv : Nat → Int32) : 42 < (mfs Ar Iv).length := Nat.le_of_ble_eq_true rfl
theorem mfs_l43 (Ar : Nat → Nat) (Iv : Nat → Int32) : 43 < (mfs Ar Iv).length := Nat.le_of_ble_eq_true rfl
theorem mfs_l44 (Ar : Nat → Nat) (Iv : Nat → Int32) : 44 < (mfs Ar Iv).length := Nat.le_of_ble_eq_true rfl
theorem mfs_l47 (Ar : Nat → Nat) (Iv : Nat → Int32) : 47 < (mfs Ar Iv).length := Nat.le_of_ble_eq_true rfl
theorem mfs_l48 (Ar : Nat → Nat) (Iv : Nat → Int32) : 48 < (mfs Ar Iv).length := Nat.le_of_ble_eq_true rfl
theorem mfs_l49 (Ar : Nat → Nat) (Iv : Nat → Int32) : 49 < (mfs Ar Iv).length := Nat.le_of_ble_eq_true rfl
theorem mfs_l50 (Ar : Nat → Nat) (Iv : Nat → Int32) : 50 < (mfs Ar Iv).length := Nat.le_of_ble_eq_true rfl
theorem mfs_l51 (Ar : Nat → Nat) (Iv : Nat → Int32) : 51 < (mfs Ar Iv).length := Nat.le_of_ble_eq_true rfl
theorem mfs_l52 (Ar : Nat → Nat) (Iv : Nat → Int32) : 52 < (mfs Ar Iv).length := Nat.le_of_ble_eq_true rfl
theorem mfs_l53 (Ar : Nat → Nat) (Iv : Nat → Int32) : 53 < (mfs Ar Iv).length := Nat.le_of_ble_eq_true rfl
theorem mfs_l54 (Ar : Nat → Nat) (Iv : Nat → Int32) : 54 < (mfs Ar Iv).length := Nat.le_of_ble_eq_true rfl
theorem mfs_l55 (Ar : Nat → Nat) (Iv : Nat → Int32) : 55 < (mfs Ar Iv).length := Nat.le_of_ble_eq_true rfl
theorem mfs_l56 (Ar : Nat → Nat) (Iv : Nat → Int32) : 56 < (mfs Ar Iv).length := Nat.le_of_ble_eq_true rfl
theorem mfs_l57 (Ar : Nat → Nat) (Iv : Nat → Int32) : 57 < (mfs Ar Iv).length := Nat.le_of_ble_eq_true rfl
theorem mfs_l58 (Ar : Nat → Nat) (Iv : Nat → Int32) : 58 < (mfs Ar Iv).length := Nat.le_of_ble_eq_true rfl
theorem mfs_l63 (Ar : Nat → Nat) (Iv : Nat → Int32) : 63 < (mfs Ar Iv).length := Nat.le_of_ble_eq_true rfl
theorem mfs_l66 (Ar : Nat → Nat) (Iv : Nat → Int32) : 66 < (mfs Ar Iv).length := Nat.le_of_ble_eq_true rfl
theorem mfs_l68 (Ar : Nat → Nat) (Iv : Nat → Int32) : 68 < (mfs Ar Iv).length := Nat.le_of_ble_eq_true rfl
theorem mfs_l69 (Ar : Nat → Nat) (Iv : Nat → Int32) : 69 < (mfs Ar Iv).length := Nat.le_of_ble_eq_true rfl
