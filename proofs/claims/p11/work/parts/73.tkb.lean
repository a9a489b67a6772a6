/-- a row of m tokens in the making -/
def TKB (cy : Nat → ClassId) (tk : Nat → Nat) (G : Nat → Option va_E) (k ks ss vs m : Nat) (K : Nat → Nat) (S : Nat → Int32) (V : Nat → Int64) : Prop := ∃ (f1 : Nat → Option Nat) (f2 : Nat → Int32) (f3 : Nat → Int64), G k = some (.inr (13, [.ref ks, .ref ss, .ref vs, .int (nI m)])) ∧ G ks = some (.inl (cy 5, 2001, .inr (.inr (.inr (.inr f1))))) ∧ G ss = some (.inl (cy 1, 2001, .inl f2)) ∧ G vs = some (.inl (cy 2, 2001, .inr (.inl f3))) ∧ ∀ j, j < m → f1 j = some (tk (K j)) ∧ f2 j = S j ∧ f3 j = V j
def kup {α : Type} (f : Nat → α) (m : Nat) (x : α) : Nat → α := fun j => if j = m then x else f j
theorem c_TK_add (l : Launch) (D : va_G) (cy : Nat → ClassId) (A : Nat → Prop) (X : State → Prop) (hst : mk_St A X) (hXT : ∀ U : State, X U → TB U) (e0 : Nat) (tk : Nat → Nat) (hXE : ∀ U : State, X U → ES e0 tk A U) (G : Nat → Option va_E) (k ks ss vs m : Nat) (K : Nat → Nat) (S : Nat → Int32) (V : Nat → Int64) (ti : Nat) (sv : Int32) (vv : Int64) (h : TKB cy tk G k ks ss vs m K S V) (hm : m < 2001) (hti : ti < 35) : Met l yX12_add [.code yX12_add cX12_add 5 none] ({ frames := 0, cells := 0, slots := 0, locals := 0 }) (mk_Pre D vwCl (tyL cy) A X G [.ref k, .ref (tk ti), .int sv, .long vv]) (va_Qv (fun (G2 : Nat → Option va_E) => TKB cy tk G2 k ks ss vs (m + 1) (kup K m ti) (kup S m sv) (kup V m vv) ∧ ∀ (x : Nat) (e : va_E), G x = some e → x ≠ k → x ≠ ks → x ≠ ss → x ≠ vs → G2 x = some e) (mk_B D vwCl A) A) 0 0 A := by
  obtain ⟨f1, f2, f3, q1, q2, q3, q4, q5⟩ := h
  refine (c_X12_add l D cy A X hst hXT e0 tk hXE G k ks ss vs (nI m) f1 f2 f3 ti sv vv q1 q2 q3 q4 (nI_pos (by omega)) (nI_lt (b := 2001) hm (by decide)) hti).mono (Nat.le_refl _) (Nat.le_refl _) (Nat.le_refl _) (Nat.le_refl _) (Nat.le_refl _) (Nat.le_refl _) (fun _ _ h => h) ?_
  rintro a s o t ⟨⟨G2, e1, ⟨k1, k2, k3, k4, k5⟩, k6⟩, k7⟩
  rw [nI_clamp (n := m) (by omega)] at k2 k3 k4
  refine ⟨⟨G2, e1, ⟨⟨_, _, _, by rw [nI_succ]; exact k1, k2, k3, k4, fun j hj => ?_⟩, k5⟩, k6⟩, k7⟩
  by_cases hz : j = m
  · simp [hz, va_up, upd, vp_updL, kup]
  · have := q5 j (by omega)
    simp [hz, va_up, upd, vp_updL, kup, this]
set_option maxHeartbeats 4000000 in
set_option maxRecDepth 100000 in
theorem c_X12_stop (l : Launch) (D : va_G) (cy : Nat → ClassId) (A : Nat → Prop) (X : State → Prop) (hst : mk_St A X) (hXT : ∀ U : State, X U → TB U) (e0 : Nat) (tk : Nat → Nat) (hXE : ∀ U : State, X U → ES e0 tk A U) (G : Nat → Option va_E) (k ks ss vs m9 : Nat) (K : Nat → Nat) (S : Nat → Int32) (V : Nat → Int64) (at_ en_ : Int32) (hTB : TKB cy tk G k ks ss vs m9 K S V) (hm : m9 < 2001) : Met l yX12_stop [.code yX12_stop cX12_stop 3 (some .int)] ({ frames := 1, cells := 0, slots := 0, locals := 30 }) (mk_Pre D vwCl (tyL cy) A X G [.ref k, .int at_, .int en_]) (va_Qi (fun (r : Int32) (G2 : Nat → Option va_E) => r = en_ ∧ TKB cy tk G2 k ks ss vs (m9 + 1) (kup K m9 3) (kup S m9 at_) (kup V m9 0) ∧ ∀ (x : Nat) (e : va_E), G x = some e → x ≠ k → x ≠ ks → x ≠ ss → x ≠ vs → G2 x = some e) (mk_B D vwCl A) A) 0 0 A := by
  refine Met.ofW (cc := cX12_stop) (maxL := 3) (ret := (some .int)) (by decide) rfl ?_
  intro p e s m args below meth c s₁ B hml hv
  obtain ⟨rfl, hG, hK, hA, hX⟩ := hv
  have hx := B.exec
  have hb := B.bytes
  have hr := B.returns
  have hlocks := B.notSynchronized
  have hT := hXT s hX
  have hown : s.vm.findClass RX12 = some m.cls := findClass_of_methodNamed B.named
  have hS : va_S A s.heap s.heap [] := va_S.rf
  have hE := hXE s hX
  have hl := lv_entry ([.ref k, .int at_, .int en_]) (n := 3) (Nat.le_of_ble_eq_true rfl)
  rw [lg_entry_eq]
  generalize (lg_sl ([.ref k, .int at_, .int en_]) ++ List.replicate (3 - (lg_sl ([.ref k, .int at_, .int en_])).length) Slot.unset).toArray = ls at hl ⊢
  have hl : lv_has ls 3 [(0, .ref k), (1, .int at_), (2, .int en_)] := hl
  obtain ⟨f1, f2, f3, hk, -⟩ := id hTB
  refine lv_aload_n hx hb dX12_stop_0 rfl (lv_at hl 0 rfl) ?_
  refine va_gets (v := .ref (tk 3)) hx hb (show va_Z "DescribeText$Token" "BAD" "LDescribeText$Token;" (.ref (tk 3)) A s s.heap from (hE.2.1 3 (by decide)).1) hS hown (tb_use hT tw_357) (fun _ h9 => h9) dX12_stop_1 ?_
  refine lv_iload_n hx hb dX12_stop_4 rfl (lv_at hl 1 rfl) ?_
  refine lv_lconst (v := 0) hx hb dX12_stop_5 (by decide) ?_
  refine va_callv (va_runV (As := [.ref (tk 3), .int at_, .long 0]) (rest := []) ⟨hx, hb, hml, hown, (fun _ h9 => absurd h9 List.not_mem_nil : ∀ w ∈ ([] : List Cond), w.before _ s = true)⟩ (c_TK_add l D cy A X hst hXT e0 tk hXE G k ks ss vs m9 K S V 3 at_ 0 hTB (by omega) (by decide)) (tb_cw (C := RX12) 3 hT tw_362 tw_107 tw_359 tw_361 tw_3 rfl rfl hq_X12_add ⟨Nat.le_of_ble_eq_true rfl, Nat.le_of_ble_eq_true rfl⟩) (mk_preC hst hG hK hA hX hS vc_13 hk) rfl rfl hl.1 rfl (lv_room (Nat.le_of_ble_eq_true rfl)) dX12_stop_6 ⟨Nat.le_of_ble_eq_true rfl, Nat.le_of_ble_eq_true rfl⟩) hS (fun q _ h => h) (fun q h => h) (fun  G1 t H locs ht hvm hw hB hz1 hk1 hS => ?_)
  have hG : mm D vwCl A G1 H := by rw [← ht]; exact hB
  clear hB hz1 hk1 hvm ht
  obtain ⟨hT2, hf2⟩ := hw
  refine lv_iload_n hx hb dX12_stop_9 rfl (lv_at hl 2 rfl) ?_
  exact W.iret (v := en_) hx hb hr (fun t ht hW => ⟨⟨_, _, rfl, ⟨rfl, hT2, hf2⟩, mk_end hG ht⟩, hS.F ht⟩) hS.2.2 dX12_stop_10
