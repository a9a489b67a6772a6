theorem mk_preC {D : va_G} {cl : List vw_C} {tys : List (ClassId × FieldType)} {A : Nat → Prop} {X : State → Prop} {G : Nat → Option va_E} {s : State} {H : Heap} {locs : List Loc} {As : List Value} {b ci : Nat} {C : String} {T : u_T} {N : Nat} {fs : List Value} (hst : mk_St A X) (hG : mm D cl A G H) (hK : va_K D cl tys s) (hA : ∀ q : Nat, s.heap.size ≤ q → A q) (hX : X s) (hS : va_S A s.heap H locs) (hc : cl[ci]? = some (C, T, N)) (hb : G b = some (.inr (ci, fs))) : PreV s H C b (mk_Pre D cl tys A X G (.ref b :: As)) As := mk_preV (r := (C, T, N)) hst hG hK hA hX hS hc hb
theorem vc_1 : vwCl[1]? = some (RJx4a65c, TJx4a65c, 3) := rfl
theorem vc_2 : vwCl[2]? = some (RX1, TX1, 10) := rfl
theorem vc_3 : vwCl[3]? = some (RX2, TX2, 11) := rfl
theorem vc_5 : vwCl[5]? = some (RX4, TX4, 5) := rfl
theorem vc_6 : vwCl[6]? = some (RX5, TX5, 6) := rfl
theorem vc_7 : vwCl[7]? = some (RX6, TX6, 2) := rfl
theorem vc_8 : vwCl[8]? = some (RX7, TX7, 9) := rfl
theorem vc_9 : vwCl[9]? = some (RX8, TX8, 15) := rfl
theorem vc_10 : vwCl[10]? = some (RX9, TX9, 5) := rfl
theorem vc_11 : vwCl[11]? = some (RX10, TX10, 6) := rfl
theorem vc_13 : vwCl[13]? = some (RX12, TX12, 4) := rfl
theorem vc_14 : vwCl[14]? = some (RX13, TX13, 9) := rfl
theorem vc_15 : vwCl[15]? = some (RX14, TX14, 76) := rfl
