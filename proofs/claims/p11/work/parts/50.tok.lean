/-! ===== tokens as they stand; the reader's steps as functions of (place, fault) ===== -/
def b2i (b : Bool) : Int32 := if b then 1 else 0
def isBl (b : Int32) : Bool := decide (b = 32) || decide (b = 9) || decide (b = 10) || decide (b = 13)
def isLe (b : Int32) : Bool := decide (97 ≤ b) && decide (b ≤ 122)
def isDi (b : Int32) : Bool := decide (48 ≤ b) && decide (b ≤ 57)
/-- a row of n tokens: kinds, where they start, their values; behind the last: BAD, 0, 0 -/
def TKP (tk : Nat → Nat) (n : Nat) (K : Nat → Nat) (S : Nat → Int32) (V : Nat → Int64) (f1 : Nat → Option Nat) (f2 : Nat → Int32) (f3 : Nat → Int64) : Prop :=
  n ≤ 2001 ∧ (∀ j, K j < 35 ∧ (n ≤ j → K j = 3 ∧ S j = 0 ∧ V j = 0)) ∧ ∀ j, j < n → f1 j = some (tk (K j)) ∧ f2 j = S j ∧ f3 j = V j
theorem mm_set_id {G : Nat → Option va_E} {a : Nat} {e : va_E} (h : G a = some e) : mm_set G a e = G := by
  funext x
  by_cases hx : x = a
  · subst hx
    rw [mm_set_self, h]
  · rw [mm_set_ne hx]
theorem mm_set_set {G : Nat → Option va_E} {a : Nat} {e e2 : va_E} : mm_set (mm_set G a e) a e2 = mm_set G a e2 := by
  funext x
  by_cases hx : x = a
  · subst hx
    rw [mm_set_self, mm_set_self]
  · rw [mm_set_ne hx, mm_set_ne hx, mm_set_ne hx]
theorem tk_ne {e0 : Nat} {tk : Nat → Nat} {A : Nat → Prop} {s : State} (hE : ES e0 tk A s) {i j : Nat} (hi : i < 35) (hj : j < 35) (h : some (tk i) = some (tk j)) : i = j := hE.2.2 i j hi hj (Option.some.inj h)
/-- does the reader see j -/
def se (K : Nat → Nat) (p : Nat) (fa : Int32) (j : Nat) : Bool := decide (fa < 0) && decide (K p = j)
def fl (S : Nat → Int32) (p : Nat) (fa : Int32) : Int32 := if fa < 0 then S p else fa
def q_take (K : Nat → Nat) (S : Nat → Int32) (j : Nat) (q : Nat × Int32) : Nat × Int32 := if se K q.1 q.2 j then (q.1 + 1, q.2) else (q.1, fl S q.1 q.2)
def q_name (K : Nat → Nat) (S : Nat → Int32) (V : Nat → Int64) (q : Nat × Int32) : Int64 × Nat × Int32 := if se K q.1 q.2 0 then (V q.1, q.1 + 1, q.2) else (0, q.1, fl S q.1 q.2)
def q_num (K : Nat → Nat) (S : Nat → Int32) (V : Nat → Int64) (lo hi : Int32) (q : Nat × Int32) : Int32 × Nat × Int32 := if se K q.1 q.2 1 = true ∧ lo.toInt64 ≤ V q.1 ∧ V q.1 ≤ hi.toInt64 then ((V q.1).toInt32, q.1 + 1, q.2) else (lo, q.1, fl S q.1 q.2)
def q_begin (S : Nat → Int32) (hv mo : Int32) (q : Nat × Int32) : Nat × Int32 := if hv < mo then (if q.2 < 0 then (q.1 + 1, q.2) else q) else (q.1, fl S q.1 q.2)
def q_val (K : Nat → Nat) (S : Nat → Int32) (V : Nat → Int64) (q : Nat × Int32) : Int32 × Nat × Int32 := if se K q.1 q.2 10 then (-(q_num K S V 0 999999 (q.1 + 1, q.2)).1, (q_num K S V 0 999999 (q.1 + 1, q.2)).2) else q_num K S V 0 999999 q
theorem q_take_le {K : Nat → Nat} {S : Nat → Int32} {j : Nat} {q : Nat × Int32} : (q_take K S j q).1 ≤ q.1 + 1 := by unfold q_take; split <;> simp
theorem q_name_le {K : Nat → Nat} {S : Nat → Int32} {V : Nat → Int64} {q : Nat × Int32} : (q_name K S V q).2.1 ≤ q.1 + 1 := by unfold q_name; split <;> simp
theorem q_num_le {K : Nat → Nat} {S : Nat → Int32} {V : Nat → Int64} {lo hi : Int32} {q : Nat × Int32} : (q_num K S V lo hi q).2.1 ≤ q.1 + 1 := by unfold q_num; split <;> simp
theorem q_begin_le {S : Nat → Int32} {hv mo : Int32} {q : Nat × Int32} : (q_begin S hv mo q).1 ≤ q.1 + 1 := by unfold q_begin; split <;> (try split) <;> simp
theorem q_val_le {K : Nat → Nat} {S : Nat → Int32} {V : Nat → Int64} {q : Nat × Int32} : (q_val K S V q).2.1 ≤ q.1 + 2 := by
  unfold q_val
  split
  · have := q_num_le (K := K) (S := S) (V := V) (lo := 0) (hi := 999999) (q := (q.1 + 1, q.2))
    simp at this ⊢
    omega
  · have := q_num_le (K := K) (S := S) (V := V) (lo := 0) (hi := 999999) (q := q)
    omega
theorem nI_lt_of {a b : Nat} (ha : a < 2 ^ 31) (hb : b < 2 ^ 31) (h : ¬ nI b ≤ nI a) : a < b := by
  rcases Nat.lt_or_ge a b with h1 | h1
  · exact h1
  · exact absurd (nI_le h1 ha) h
theorem nI_ge_of {a b : Nat} (ha : a < 2 ^ 31) (hb : b < 2 ^ 31) (h : nI b ≤ nI a) : b ≤ a := by
  rcases Nat.lt_or_ge a b with h1 | h1
  · exact absurd h (nI_ge h1 hb)
  · exact h1
theorem nI_lt_len {p n : Nat} (hp : p < 2 ^ 31) (hn : n ≤ 2001) (h : ¬ nI n ≤ nI p) : nI p < 2001 := by
  have h1 := nI_lt_of hp (by omega) h
  exact nI_lt (b := 2001) (by omega) (by decide)
set_option maxHeartbeats 4000000 in
set_option maxRecDepth 100000 in
theorem c_X12_isBlank (l : Launch) (D : va_G) (cy : Nat → ClassId) (A : Nat → Prop) (X : State → Prop) (hst : mk_St A X) (hXT : ∀ U : State, X U → TB U) (e0 : Nat) (tk : Nat → Nat) (hXE : ∀ U : State, X U → ES e0 tk A U) (G : Nat → Option va_E) (bv : Int32)  : Met l yX12_isBlank [.code yX12_isBlank cX12_isBlank 1 (some .boolean)] ({ frames := 0, cells := 0, slots := 0, locals := 0 }) (mk_Pre D vwCl (tyL cy) A X G [.int bv]) (va_Qi (fun (r : Int32) (G2 : Nat → Option va_E) => r = b2i (isBl bv) ∧ G2 = G) (mk_B D vwCl A) A) 0 0 A := by
  refine Met.ofW (cc := cX12_isBlank) (maxL := 1) (ret := (some .boolean)) (by decide) rfl ?_
  intro p e s m args below meth c s₁ B hml hv
  obtain ⟨rfl, hG, hK, hA, hX⟩ := hv
  have hx := B.exec
  have hb := B.bytes
  have hr := B.returns
  have hlocks := B.notSynchronized
  have hT := hXT s hX
  have hown : s.vm.findClass RX12 = some m.cls := findClass_of_methodNamed B.named
  have hS : va_S A s.heap s.heap [] := va_S.rf
  have hE := hXE s hX
  have hl := lv_entry ([.int bv]) (n := 1) (Nat.le_of_ble_eq_true rfl)
  rw [lg_entry_eq]
  generalize (lg_sl ([.int bv]) ++ List.replicate (1 - (lg_sl ([.int bv])).length) Slot.unset).toArray = ls at hl ⊢
  have hl : lv_has ls 1 [(0, .int bv)] := hl
  refine lv_iload_n hx hb dX12_isBlank_0 rfl (lv_at hl 0 rfl) ?_
  refine lv_bipush (v := 32) hx hb dX12_isBlank_1 (by decide) ?_
  refine lv_icmp_eq (tgt := 24) hx hb dX12_isBlank_3 (by decide) (fun c_3 => ?_) (fun c_3 => ?_)
  · skip
    refine lv_iconst (v := 1) hx hb dX12_isBlank_24 (by decide) ?_
    refine lv_goto (tgt := 29) hx hb dX12_isBlank_25 (by decide) ?_
    have h_c_3 := c_3
    exact W.zret (v := 1) hx hb hr rfl (fun t ht hW => ⟨⟨_, _, rfl, ⟨(by unfold b2i isBl; simp_all), rfl⟩, mk_end hG ht⟩, hS.F ht⟩) hS.2.2 dX12_isBlank_29
  · skip
    refine lv_iload_n hx hb dX12_isBlank_6 rfl (lv_at hl 0 rfl) ?_
    refine lv_bipush (v := 9) hx hb dX12_isBlank_7 (by decide) ?_
    refine lv_icmp_eq (tgt := 24) hx hb dX12_isBlank_9 (by decide) (fun c_9 => ?_) (fun c_9 => ?_)
    · skip
      refine lv_iconst (v := 1) hx hb dX12_isBlank_24 (by decide) ?_
      refine lv_goto (tgt := 29) hx hb dX12_isBlank_25 (by decide) ?_
      have h_c_3 := c_3
      have h_c_9 := c_9
      exact W.zret (v := 1) hx hb hr rfl (fun t ht hW => ⟨⟨_, _, rfl, ⟨(by unfold b2i isBl; simp_all), rfl⟩, mk_end hG ht⟩, hS.F ht⟩) hS.2.2 dX12_isBlank_29
    · skip
      refine lv_iload_n hx hb dX12_isBlank_12 rfl (lv_at hl 0 rfl) ?_
      refine lv_bipush (v := 10) hx hb dX12_isBlank_13 (by decide) ?_
      refine lv_icmp_eq (tgt := 24) hx hb dX12_isBlank_15 (by decide) (fun c_15 => ?_) (fun c_15 => ?_)
      · skip
        refine lv_iconst (v := 1) hx hb dX12_isBlank_24 (by decide) ?_
        refine lv_goto (tgt := 29) hx hb dX12_isBlank_25 (by decide) ?_
        have h_c_3 := c_3
        have h_c_9 := c_9
        have h_c_15 := c_15
        exact W.zret (v := 1) hx hb hr rfl (fun t ht hW => ⟨⟨_, _, rfl, ⟨(by unfold b2i isBl; simp_all), rfl⟩, mk_end hG ht⟩, hS.F ht⟩) hS.2.2 dX12_isBlank_29
      · skip
        refine lv_iload_n hx hb dX12_isBlank_18 rfl (lv_at hl 0 rfl) ?_
        refine lv_bipush (v := 13) hx hb dX12_isBlank_19 (by decide) ?_
        refine lv_icmp_ne (tgt := 28) hx hb dX12_isBlank_21 (by decide) (fun c_21 => ?_) (fun c_21 => ?_)
        · skip
          refine lv_iconst (v := 0) hx hb dX12_isBlank_28 (by decide) ?_
          have h_c_3 := c_3
          have h_c_9 := c_9
          have h_c_15 := c_15
          have h_c_21 := c_21
          exact W.zret (v := 0) hx hb hr rfl (fun t ht hW => ⟨⟨_, _, rfl, ⟨(by unfold b2i isBl; simp_all), rfl⟩, mk_end hG ht⟩, hS.F ht⟩) hS.2.2 dX12_isBlank_29
        · skip
          refine lv_iconst (v := 1) hx hb dX12_isBlank_24 (by decide) ?_
          refine lv_goto (tgt := 29) hx hb dX12_isBlank_25 (by decide) ?_
          have h_c_3 := c_3
          have h_c_9 := c_9
          have h_c_15 := c_15
          have h_c_21 := c_21
          exact W.zret (v := 1) hx hb hr rfl (fun t ht hW => ⟨⟨_, _, rfl, ⟨(by unfold b2i isBl; simp_all), rfl⟩, mk_end hG ht⟩, hS.F ht⟩) hS.2.2 dX12_isBlank_29

set_option maxHeartbeats 4000000 in
set_option maxRecDepth 100000 in
theorem c_X12_isLetter (l : Launch) (D : va_G) (cy : Nat → ClassId) (A : Nat → Prop) (X : State → Prop) (hst : mk_St A X) (hXT : ∀ U : State, X U → TB U) (e0 : Nat) (tk : Nat → Nat) (hXE : ∀ U : State, X U → ES e0 tk A U) (G : Nat → Option va_E) (bv : Int32)  : Met l yX12_isLetter [.code yX12_isLetter cX12_isLetter 1 (some .boolean)] ({ frames := 0, cells := 0, slots := 0, locals := 0 }) (mk_Pre D vwCl (tyL cy) A X G [.int bv]) (va_Qi (fun (r : Int32) (G2 : Nat → Option va_E) => r = b2i (isLe bv) ∧ G2 = G) (mk_B D vwCl A) A) 0 0 A := by
  refine Met.ofW (cc := cX12_isLetter) (maxL := 1) (ret := (some .boolean)) (by decide) rfl ?_
  intro p e s m args below meth c s₁ B hml hv
  obtain ⟨rfl, hG, hK, hA, hX⟩ := hv
  have hx := B.exec
  have hb := B.bytes
  have hr := B.returns
  have hlocks := B.notSynchronized
  have hT := hXT s hX
  have hown : s.vm.findClass RX12 = some m.cls := findClass_of_methodNamed B.named
  have hS : va_S A s.heap s.heap [] := va_S.rf
  have hE := hXE s hX
  have hl := lv_entry ([.int bv]) (n := 1) (Nat.le_of_ble_eq_true rfl)
  rw [lg_entry_eq]
  generalize (lg_sl ([.int bv]) ++ List.replicate (1 - (lg_sl ([.int bv])).length) Slot.unset).toArray = ls at hl ⊢
  have hl : lv_has ls 1 [(0, .int bv)] := hl
  refine lv_iload_n hx hb dX12_isLetter_0 rfl (lv_at hl 0 rfl) ?_
  refine lv_bipush (v := 97) hx hb dX12_isLetter_1 (by decide) ?_
  refine lv_icmp_lt (tgt := 16) hx hb dX12_isLetter_3 (by decide) (fun c_3 => ?_) (fun c_3 => ?_)
  · skip
    refine lv_iconst (v := 0) hx hb dX12_isLetter_16 (by decide) ?_
    exact W.zret (v := 0) hx hb hr rfl (fun t ht hW => ⟨⟨_, _, rfl, ⟨(by unfold b2i isLe; rw [decide_eq_false (Int32.not_le.mpr c_3)]; rfl), rfl⟩, mk_end hG ht⟩, hS.F ht⟩) hS.2.2 dX12_isLetter_17
  · skip
    refine lv_iload_n hx hb dX12_isLetter_6 rfl (lv_at hl 0 rfl) ?_
    refine lv_bipush (v := 122) hx hb dX12_isLetter_7 (by decide) ?_
    refine lv_icmp_gt (tgt := 16) hx hb dX12_isLetter_9 (by decide) (fun c_9 => ?_) (fun c_9 => ?_)
    · skip
      refine lv_iconst (v := 0) hx hb dX12_isLetter_16 (by decide) ?_
      exact W.zret (v := 0) hx hb hr rfl (fun t ht hW => ⟨⟨_, _, rfl, ⟨(by unfold b2i isLe; rw [decide_eq_false (Int32.not_le.mpr c_9), Bool.and_false]; rfl), rfl⟩, mk_end hG ht⟩, hS.F ht⟩) hS.2.2 dX12_isLetter_17
    · skip
      refine lv_iconst (v := 1) hx hb dX12_isLetter_12 (by decide) ?_
      refine lv_goto (tgt := 17) hx hb dX12_isLetter_13 (by decide) ?_
      exact W.zret (v := 1) hx hb hr rfl (fun t ht hW => ⟨⟨_, _, rfl, ⟨(by unfold b2i isLe; rw [decide_eq_true (Int32.not_lt.mp c_3), decide_eq_true (Int32.not_lt.mp c_9)]; rfl), rfl⟩, mk_end hG ht⟩, hS.F ht⟩) hS.2.2 dX12_isLetter_17

set_option maxHeartbeats 4000000 in
set_option maxRecDepth 100000 in
theorem c_X12_isDigit (l : Launch) (D : va_G) (cy : Nat → ClassId) (A : Nat → Prop) (X : State → Prop) (hst : mk_St A X) (hXT : ∀ U : State, X U → TB U) (e0 : Nat) (tk : Nat → Nat) (hXE : ∀ U : State, X U → ES e0 tk A U) (G : Nat → Option va_E) (bv : Int32)  : Met l yX12_isDigit [.code yX12_isDigit cX12_isDigit 1 (some .boolean)] ({ frames := 0, cells := 0, slots := 0, locals := 0 }) (mk_Pre D vwCl (tyL cy) A X G [.int bv]) (va_Qi (fun (r : Int32) (G2 : Nat → Option va_E) => r = b2i (isDi bv) ∧ G2 = G) (mk_B D vwCl A) A) 0 0 A := by
  refine Met.ofW (cc := cX12_isDigit) (maxL := 1) (ret := (some .boolean)) (by decide) rfl ?_
  intro p e s m args below meth c s₁ B hml hv
  obtain ⟨rfl, hG, hK, hA, hX⟩ := hv
  have hx := B.exec
  have hb := B.bytes
  have hr := B.returns
  have hlocks := B.notSynchronized
  have hT := hXT s hX
  have hown : s.vm.findClass RX12 = some m.cls := findClass_of_methodNamed B.named
  have hS : va_S A s.heap s.heap [] := va_S.rf
  have hE := hXE s hX
  have hl := lv_entry ([.int bv]) (n := 1) (Nat.le_of_ble_eq_true rfl)
  rw [lg_entry_eq]
  generalize (lg_sl ([.int bv]) ++ List.replicate (1 - (lg_sl ([.int bv])).length) Slot.unset).toArray = ls at hl ⊢
  have hl : lv_has ls 1 [(0, .int bv)] := hl
  refine lv_iload_n hx hb dX12_isDigit_0 rfl (lv_at hl 0 rfl) ?_
  refine lv_bipush (v := 48) hx hb dX12_isDigit_1 (by decide) ?_
  refine lv_icmp_lt (tgt := 16) hx hb dX12_isDigit_3 (by decide) (fun c_3 => ?_) (fun c_3 => ?_)
  · skip
    refine lv_iconst (v := 0) hx hb dX12_isDigit_16 (by decide) ?_
    exact W.zret (v := 0) hx hb hr rfl (fun t ht hW => ⟨⟨_, _, rfl, ⟨(by unfold b2i isDi; rw [decide_eq_false (Int32.not_le.mpr c_3)]; rfl), rfl⟩, mk_end hG ht⟩, hS.F ht⟩) hS.2.2 dX12_isDigit_17
  · skip
    refine lv_iload_n hx hb dX12_isDigit_6 rfl (lv_at hl 0 rfl) ?_
    refine lv_bipush (v := 57) hx hb dX12_isDigit_7 (by decide) ?_
    refine lv_icmp_gt (tgt := 16) hx hb dX12_isDigit_9 (by decide) (fun c_9 => ?_) (fun c_9 => ?_)
    · skip
      refine lv_iconst (v := 0) hx hb dX12_isDigit_16 (by decide) ?_
      exact W.zret (v := 0) hx hb hr rfl (fun t ht hW => ⟨⟨_, _, rfl, ⟨(by unfold b2i isDi; rw [decide_eq_false (Int32.not_le.mpr c_9), Bool.and_false]; rfl), rfl⟩, mk_end hG ht⟩, hS.F ht⟩) hS.2.2 dX12_isDigit_17
    · skip
      refine lv_iconst (v := 1) hx hb dX12_isDigit_12 (by decide) ?_
      refine lv_goto (tgt := 17) hx hb dX12_isDigit_13 (by decide) ?_
      exact W.zret (v := 1) hx hb hr rfl (fun t ht hW => ⟨⟨_, _, rfl, ⟨(by unfold b2i isDi; rw [decide_eq_true (Int32.not_lt.mp c_3), decide_eq_true (Int32.not_lt.mp c_9)]; rfl), rfl⟩, mk_end hG ht⟩, hS.F ht⟩) hS.2.2 dX12_isDigit_17

set_option maxHeartbeats 4000000 in
set_option maxRecDepth 100000 in
theorem c_X12_kind (l : Launch) (D : va_G) (cy : Nat → ClassId) (A : Nat → Prop) (X : State → Prop) (hst : mk_St A X) (hXT : ∀ U : State, X U → TB U) (e0 : Nat) (tk : Nat → Nat) (hXE : ∀ U : State, X U → ES e0 tk A U) (G : Nat → Option va_E) (k ks ss vs tn : Nat) (K : Nat → Nat) (S : Nat → Int32) (V : Nat → Int64) (f1 : Nat → Option Nat) (f2 : Nat → Int32) (f3 : Nat → Int64) (pn : Nat) (q1 : G k = some (.inr (13, [.ref ks, .ref ss, .ref vs, .int (nI tn)]))) (q2 : G ks = some (.inl (cy 5, 2001, .inr (.inr (.inr (.inr f1)))))) (q3 : G ss = some (.inl (cy 1, 2001, .inl f2))) (q4 : G vs = some (.inl (cy 2, 2001, .inr (.inl f3)))) (hTP : TKP tk tn K S V f1 f2 f3) (hp : pn < 2 ^ 31) : Met l yX12_kind [.code yX12_kind cX12_kind 3 (some (.object "DescribeText$Token"))] ({ frames := 0, cells := 0, slots := 0, locals := 0 }) (mk_Pre D vwCl (tyL cy) A X G [.ref k, .int (nI pn)]) (va_Qq (fun (r : Option Nat) (G2 : Nat → Option va_E) => r = some (tk (K pn)) ∧ G2 = G) (mk_B D vwCl A) A) 0 0 A := by
  refine Met.ofW (cc := cX12_kind) (maxL := 3) (ret := (some (.object "DescribeText$Token"))) (by decide) rfl ?_
  intro p e s m args below meth c s₁ B hml hv
  obtain ⟨rfl, hG, hK, hA, hX⟩ := hv
  have hx := B.exec
  have hb := B.bytes
  have hr := B.returns
  have hlocks := B.notSynchronized
  have hT := hXT s hX
  have hown : s.vm.findClass RX12 = some m.cls := findClass_of_methodNamed B.named
  have hf_X12 : ∀ w ∈ u_ws RX12 TX12 4, w.before ([.ref k, .int (nI pn)] : List Value).toArray s = true := tb_list hT fX12
  have hS : va_S A s.heap s.heap [] := va_S.rf
  have hE := hXE s hX
  have hl := lv_entry ([.ref k, .int (nI pn)]) (n := 3) (Nat.le_of_ble_eq_true rfl)
  rw [lg_entry_eq]
  generalize (lg_sl ([.ref k, .int (nI pn)]) ++ List.replicate (3 - (lg_sl ([.ref k, .int (nI pn)])).length) Slot.unset).toArray = ls at hl ⊢
  have hl : lv_has ls 3 [(0, .ref k), (1, .int (nI pn))] := hl
  obtain ⟨hn9, hK9, q5⟩ := hTP
  refine lv_iload_n hx hb dX12_kind_0 rfl (lv_at hl 1 rfl) ?_
  refine lv_if_lt (tgt := 21) hx hb dX12_kind_1 (by decide) (fun c_1 => ?_) (fun c_1 => ?_)
  · skip
    exact absurd c_1 (nI_pos hp)
  · skip
    refine lv_iload_n hx hb dX12_kind_4 rfl (lv_at hl 1 rfl) ?_
    refine lv_aload_n hx hb dX12_kind_5 rfl (lv_at hl 0 rfl) ?_
    refine mm_get (v := .int (nI tn)) hx hb hf_X12 (fun _ h9 => h9) hown hK hG q1 rfl 3 (by decide) (tb_use hT tw_163) (fun _ h9 => h9) rfl dX12_kind_6 ?_
    refine lv_icmp_ge (tgt := 21) hx hb dX12_kind_9 (by decide) (fun c_9 => ?_) (fun c_9 => ?_)
    · skip
      refine va_gets (v := .ref (tk 3)) hx hb (show va_Z "DescribeText$Token" "BAD" "LDescribeText$Token;" (.ref (tk 3)) A s s.heap from (hE.2.1 3 (by decide)).1) hS hown (tb_use hT tw_357) (fun _ h9 => h9) dX12_kind_21 ?_
      exact W.aret (v := .ref (tk 3)) hx hb hr (Or.inl ⟨_, rfl⟩) (Or.inr ⟨_, rfl⟩) (fun t ht hW => ⟨⟨(some (tk 3)), _, rfl, ⟨(by rw [((hK9 pn).2 (nI_ge_of hp (by omega) c_9)).1]), rfl⟩, mk_end hG ht⟩, hS.F ht⟩) hS.2.2 dX12_kind_24
    · skip
      refine lv_iload_n hx hb dX12_kind_12 rfl (lv_at hl 1 rfl) ?_
      refine lv_aload_n hx hb dX12_kind_13 rfl (lv_at hl 0 rfl) ?_
      refine mm_get (v := .ref ks) hx hb hf_X12 (fun _ h9 => h9) hown hK hG q1 rfl 0 (by decide) (tb_use hT tw_160) (fun _ h9 => h9) rfl dX12_kind_14 ?_
      refine mm_alen (v := 2001) hx hb hK hG 5 q2 rfl rfl dX12_kind_17 ?_
      refine lv_icmp_lt (tgt := 25) hx hb dX12_kind_18 (by decide) (fun c_18 => ?_) (fun c_18 => ?_)
      · skip
        refine lv_aload_n hx hb dX12_kind_25 rfl (lv_at hl 0 rfl) ?_
        refine mm_get (v := .ref ks) hx hb hf_X12 (fun _ h9 => h9) hown hK hG q1 rfl 0 (by decide) (tb_use hT tw_160) (fun _ h9 => h9) rfl dX12_kind_26 ?_
        refine lv_iload_n hx hb dX12_kind_29 rfl (lv_at hl 1 rfl) ?_
        refine mm_aald hx hb hK hG 5 q2 rfl (nI_in (N := 2001) (Nat.lt_of_lt_of_le (nI_lt_of hp (by omega) c_9) hn9) (by decide)) dX12_kind_30 ?_
        have hpn : pn < tn := nI_lt_of hp (by omega) c_9
        rw [show f1 (nI pn).toNatClampNeg = some (tk (K pn)) by rw [nI_clamp hp]; exact (q5 pn hpn).1]
        refine W.eq (g2 := F0 m 31 ls [.ref (tk (K pn))]) rfl ?_
        refine lv_astore_n (lv' := [(2, .ref (tk (K pn))), (0, .ref k), (1, .int (nI pn))]) hx hb dX12_kind_31 rfl hl (by decide) rfl (fun ls hl => ?_)
        refine lv_aload_n hx hb dX12_kind_32 rfl (lv_at hl 0 rfl) ?_
        refine lv_ifnonnull (tgt := 42) hx hb dX12_kind_33 (by decide) ?_
        refine lv_aload_n hx hb dX12_kind_42 rfl (lv_at hl 0 rfl) ?_
        exact W.aret (v := .ref (tk (K pn))) hx hb hr (Or.inl ⟨_, rfl⟩) (Or.inr ⟨_, rfl⟩) (fun t ht hW => ⟨⟨(some (tk (K pn))), _, rfl, ⟨rfl, rfl⟩, mk_end hG ht⟩, hS.F ht⟩) hS.2.2 dX12_kind_43
      · skip
        exact absurd (nI_lt_len hp hn9 c_9) c_18

set_option maxHeartbeats 4000000 in
set_option maxRecDepth 100000 in
theorem c_X12_start (l : Launch) (D : va_G) (cy : Nat → ClassId) (A : Nat → Prop) (X : State → Prop) (hst : mk_St A X) (hXT : ∀ U : State, X U → TB U) (e0 : Nat) (tk : Nat → Nat) (hXE : ∀ U : State, X U → ES e0 tk A U) (G : Nat → Option va_E) (k ks ss vs tn : Nat) (K : Nat → Nat) (S : Nat → Int32) (V : Nat → Int64) (f1 : Nat → Option Nat) (f2 : Nat → Int32) (f3 : Nat → Int64) (pn : Nat) (q1 : G k = some (.inr (13, [.ref ks, .ref ss, .ref vs, .int (nI tn)]))) (q2 : G ks = some (.inl (cy 5, 2001, .inr (.inr (.inr (.inr f1)))))) (q3 : G ss = some (.inl (cy 1, 2001, .inl f2))) (q4 : G vs = some (.inl (cy 2, 2001, .inr (.inl f3)))) (hTP : TKP tk tn K S V f1 f2 f3) (hp : pn < 2 ^ 31) : Met l yX12_start [.code yX12_start cX12_start 2 (some .int)] ({ frames := 0, cells := 0, slots := 0, locals := 0 }) (mk_Pre D vwCl (tyL cy) A X G [.ref k, .int (nI pn)]) (va_Qi (fun (r : Int32) (G2 : Nat → Option va_E) => r = S pn ∧ G2 = G) (mk_B D vwCl A) A) 0 0 A := by
  refine Met.ofW (cc := cX12_start) (maxL := 2) (ret := (some .int)) (by decide) rfl ?_
  intro p e s m args below meth c s₁ B hml hv
  obtain ⟨rfl, hG, hK, hA, hX⟩ := hv
  have hx := B.exec
  have hb := B.bytes
  have hr := B.returns
  have hlocks := B.notSynchronized
  have hT := hXT s hX
  have hown : s.vm.findClass RX12 = some m.cls := findClass_of_methodNamed B.named
  have hf_X12 : ∀ w ∈ u_ws RX12 TX12 4, w.before ([.ref k, .int (nI pn)] : List Value).toArray s = true := tb_list hT fX12
  have hS : va_S A s.heap s.heap [] := va_S.rf
  have hE := hXE s hX
  have hl := lv_entry ([.ref k, .int (nI pn)]) (n := 2) (Nat.le_of_ble_eq_true rfl)
  rw [lg_entry_eq]
  generalize (lg_sl ([.ref k, .int (nI pn)]) ++ List.replicate (2 - (lg_sl ([.ref k, .int (nI pn)])).length) Slot.unset).toArray = ls at hl ⊢
  have hl : lv_has ls 2 [(0, .ref k), (1, .int (nI pn))] := hl
  obtain ⟨hn9, hK9, q5⟩ := hTP
  refine lv_iload_n hx hb dX12_start_0 rfl (lv_at hl 1 rfl) ?_
  refine lv_if_lt (tgt := 21) hx hb dX12_start_1 (by decide) (fun c_1 => ?_) (fun c_1 => ?_)
  · skip
    exact absurd c_1 (nI_pos hp)
  · skip
    refine lv_iload_n hx hb dX12_start_4 rfl (lv_at hl 1 rfl) ?_
    refine lv_aload_n hx hb dX12_start_5 rfl (lv_at hl 0 rfl) ?_
    refine mm_get (v := .int (nI tn)) hx hb hf_X12 (fun _ h9 => h9) hown hK hG q1 rfl 3 (by decide) (tb_use hT tw_163) (fun _ h9 => h9) rfl dX12_start_6 ?_
    refine lv_icmp_ge (tgt := 21) hx hb dX12_start_9 (by decide) (fun c_9 => ?_) (fun c_9 => ?_)
    · skip
      refine lv_iconst (v := 0) hx hb dX12_start_21 (by decide) ?_
      refine lv_goto (tgt := 31) hx hb dX12_start_22 (by decide) ?_
      exact W.iret (v := 0) hx hb hr (fun t ht hW => ⟨⟨_, _, rfl, ⟨((hK9 pn).2 (nI_ge_of hp (by omega) c_9)).2.1.symm, rfl⟩, mk_end hG ht⟩, hS.F ht⟩) hS.2.2 dX12_start_31
    · skip
      refine lv_iload_n hx hb dX12_start_12 rfl (lv_at hl 1 rfl) ?_
      refine lv_aload_n hx hb dX12_start_13 rfl (lv_at hl 0 rfl) ?_
      refine mm_get (v := .ref ss) hx hb hf_X12 (fun _ h9 => h9) hown hK hG q1 rfl 1 (by decide) (tb_use hT tw_161) (fun _ h9 => h9) rfl dX12_start_14 ?_
      refine mm_alen (v := 2001) hx hb hK hG 1 q3 rfl rfl dX12_start_17 ?_
      refine lv_icmp_lt (tgt := 25) hx hb dX12_start_18 (by decide) (fun c_18 => ?_) (fun c_18 => ?_)
      · skip
        refine lv_aload_n hx hb dX12_start_25 rfl (lv_at hl 0 rfl) ?_
        refine mm_get (v := .ref ss) hx hb hf_X12 (fun _ h9 => h9) hown hK hG q1 rfl 1 (by decide) (tb_use hT tw_161) (fun _ h9 => h9) rfl dX12_start_26 ?_
        refine lv_iload_n hx hb dX12_start_29 rfl (lv_at hl 1 rfl) ?_
        refine mm_iald hx hb hK hG 1 q3 rfl (nI_in (N := 2001) (Nat.lt_of_lt_of_le (nI_lt_of hp (by omega) c_9) hn9) (by decide)) dX12_start_30 ?_
        refine lv_topi (fun x1 ex1 => ?_)
        exact W.iret (v := x1) hx hb hr (fun t ht hW => ⟨⟨_, _, rfl, ⟨(by rw [ex1, nI_clamp hp]; exact (q5 pn (nI_lt_of hp (by omega) c_9)).2.1), rfl⟩, mk_end hG ht⟩, hS.F ht⟩) hS.2.2 dX12_start_31
      · skip
        exact absurd (nI_lt_len hp hn9 c_9) c_18

set_option maxHeartbeats 4000000 in
set_option maxRecDepth 100000 in
theorem c_X12_value (l : Launch) (D : va_G) (cy : Nat → ClassId) (A : Nat → Prop) (X : State → Prop) (hst : mk_St A X) (hXT : ∀ U : State, X U → TB U) (e0 : Nat) (tk : Nat → Nat) (hXE : ∀ U : State, X U → ES e0 tk A U) (G : Nat → Option va_E) (k ks ss vs tn : Nat) (K : Nat → Nat) (S : Nat → Int32) (V : Nat → Int64) (f1 : Nat → Option Nat) (f2 : Nat → Int32) (f3 : Nat → Int64) (pn : Nat) (q1 : G k = some (.inr (13, [.ref ks, .ref ss, .ref vs, .int (nI tn)]))) (q2 : G ks = some (.inl (cy 5, 2001, .inr (.inr (.inr (.inr f1)))))) (q3 : G ss = some (.inl (cy 1, 2001, .inl f2))) (q4 : G vs = some (.inl (cy 2, 2001, .inr (.inl f3)))) (hTP : TKP tk tn K S V f1 f2 f3) (hp : pn < 2 ^ 31) : Met l yX12_value [.code yX12_value cX12_value 2 (some .long)] ({ frames := 0, cells := 0, slots := 0, locals := 0 }) (mk_Pre D vwCl (tyL cy) A X G [.ref k, .int (nI pn)]) (va_Ql (fun (r : Int64) (G2 : Nat → Option va_E) => r = V pn ∧ G2 = G) (mk_B D vwCl A) A) 0 0 A := by
  refine Met.ofW (cc := cX12_value) (maxL := 2) (ret := (some .long)) (by decide) rfl ?_
  intro p e s m args below meth c s₁ B hml hv
  obtain ⟨rfl, hG, hK, hA, hX⟩ := hv
  have hx := B.exec
  have hb := B.bytes
  have hr := B.returns
  have hlocks := B.notSynchronized
  have hT := hXT s hX
  have hown : s.vm.findClass RX12 = some m.cls := findClass_of_methodNamed B.named
  have hf_X12 : ∀ w ∈ u_ws RX12 TX12 4, w.before ([.ref k, .int (nI pn)] : List Value).toArray s = true := tb_list hT fX12
  have hS : va_S A s.heap s.heap [] := va_S.rf
  have hE := hXE s hX
  have hl := lv_entry ([.ref k, .int (nI pn)]) (n := 2) (Nat.le_of_ble_eq_true rfl)
  rw [lg_entry_eq]
  generalize (lg_sl ([.ref k, .int (nI pn)]) ++ List.replicate (2 - (lg_sl ([.ref k, .int (nI pn)])).length) Slot.unset).toArray = ls at hl ⊢
  have hl : lv_has ls 2 [(0, .ref k), (1, .int (nI pn))] := hl
  obtain ⟨hn9, hK9, q5⟩ := hTP
  refine lv_iload_n hx hb dX12_value_0 rfl (lv_at hl 1 rfl) ?_
  refine lv_if_lt (tgt := 21) hx hb dX12_value_1 (by decide) (fun c_1 => ?_) (fun c_1 => ?_)
  · skip
    exact absurd c_1 (nI_pos hp)
  · skip
    refine lv_iload_n hx hb dX12_value_4 rfl (lv_at hl 1 rfl) ?_
    refine lv_aload_n hx hb dX12_value_5 rfl (lv_at hl 0 rfl) ?_
    refine mm_get (v := .int (nI tn)) hx hb hf_X12 (fun _ h9 => h9) hown hK hG q1 rfl 3 (by decide) (tb_use hT tw_163) (fun _ h9 => h9) rfl dX12_value_6 ?_
    refine lv_icmp_ge (tgt := 21) hx hb dX12_value_9 (by decide) (fun c_9 => ?_) (fun c_9 => ?_)
    · skip
      refine lv_lconst (v := 0) hx hb dX12_value_21 (by decide) ?_
      refine lv_goto (tgt := 31) hx hb dX12_value_22 (by decide) ?_
      exact W.lret (v := 0) hx hb hr (fun t ht hW => ⟨⟨_, _, rfl, ⟨((hK9 pn).2 (nI_ge_of hp (by omega) c_9)).2.2.symm, rfl⟩, mk_end hG ht⟩, hS.F ht⟩) hS.2.2 dX12_value_31
    · skip
      refine lv_iload_n hx hb dX12_value_12 rfl (lv_at hl 1 rfl) ?_
      refine lv_aload_n hx hb dX12_value_13 rfl (lv_at hl 0 rfl) ?_
      refine mm_get (v := .ref vs) hx hb hf_X12 (fun _ h9 => h9) hown hK hG q1 rfl 2 (by decide) (tb_use hT tw_162) (fun _ h9 => h9) rfl dX12_value_14 ?_
      refine mm_alen (v := 2001) hx hb hK hG 2 q4 rfl rfl dX12_value_17 ?_
      refine lv_icmp_lt (tgt := 25) hx hb dX12_value_18 (by decide) (fun c_18 => ?_) (fun c_18 => ?_)
      · skip
        refine lv_aload_n hx hb dX12_value_25 rfl (lv_at hl 0 rfl) ?_
        refine mm_get (v := .ref vs) hx hb hf_X12 (fun _ h9 => h9) hown hK hG q1 rfl 2 (by decide) (tb_use hT tw_162) (fun _ h9 => h9) rfl dX12_value_26 ?_
        refine lv_iload_n hx hb dX12_value_29 rfl (lv_at hl 1 rfl) ?_
        refine mm_lald hx hb hK hG 2 q4 rfl (nI_in (N := 2001) (Nat.lt_of_lt_of_le (nI_lt_of hp (by omega) c_9) hn9) (by decide)) dX12_value_30 ?_
        refine lv_topl (fun x1 ex1 => ?_)
        exact W.lret (v := x1) hx hb hr (fun t ht hW => ⟨⟨_, _, rfl, ⟨(by rw [ex1, nI_clamp hp]; exact (q5 pn (nI_lt_of hp (by omega) c_9)).2.2), rfl⟩, mk_end hG ht⟩, hS.F ht⟩) hS.2.2 dX12_value_31
      · skip
        exact absurd (nI_lt_len hp hn9 c_9) c_18
