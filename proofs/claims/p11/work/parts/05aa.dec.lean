/-! ===== decode by the first octet ===== -/
def dq_l (c : ByteArray) (p : Nat) : List UInt8 := c.data.toList.drop p
theorem dq_u {c : ByteArray} {p : Nat} {b : UInt8} {r : List UInt8} (h : dq_l c p = b :: r) : (Reader.u1 : Decoder Nat) c p = .ok (b.toNat, p + 1) ∧ dq_l c (p + 1) = r := by
  obtain ⟨d⟩ := c
  have h' : d.toList.drop p = b :: r := h
  have h0 : d.toList[p]? = some b := by
    have z := congrArg List.head? h'
    rw [List.head?_drop] at z
    exact z
  obtain ⟨h1, h2⟩ := List.getElem?_eq_some_iff.mp h0
  have hp : p < (ByteArray.mk d).size := h1
  refine ⟨?_, ?_⟩
  · have e : (Reader.u1 : Decoder Nat) (ByteArray.mk d) p = (if h : p < (ByteArray.mk d).size then (do set (p + 1); pure ((ByteArray.mk d)[p]).toNat : Decoder Nat) else throw (HasTruncated.truncated p)) (ByteArray.mk d) p := rfl
    rw [e, dif_pos hp]
    have h3 : (ByteArray.mk d)[p] = b := h2
    show Except.ok (((ByteArray.mk d)[p]).toNat, p + 1) = _
    rw [h3]
  · show d.toList.drop (p + 1) = r
    rw [← List.tail_drop, h']
    rfl
def dq_1 (c : ByteArray) (p x : Nat) : Bool := match dq_l c p with
  | a :: _ => Nat.beq a.toNat x
  | [] => false
def dq_2 (c : ByteArray) (p x v : Nat) : Bool := match dq_l c p with
  | a :: b :: _ => Nat.beq a.toNat x && Nat.beq b.toNat v
  | _ => false
def dq_s (c : ByteArray) (p x : Nat) (v : Int) : Bool := match dq_l c p with
  | a :: b :: _ => Nat.beq a.toNat x && decide (Reader.signed 8 b.toNat = v)
  | _ => false
def dq_3 (c : ByteArray) (p x v : Nat) : Bool := match dq_l c p with
  | a :: b :: d :: _ => Nat.beq a.toNat x && Nat.beq (b.toNat * 256 + d.toNat) v
  | _ => false
def dq_t (c : ByteArray) (p x : Nat) (v : Int) : Bool := match dq_l c p with
  | a :: b :: d :: _ => Nat.beq a.toNat x && decide (Reader.signed 16 (b.toNat * 256 + d.toNat) = v)
  | _ => false
section DQ
variable {c : ByteArray} {p x : Nat}
theorem dq_1u (h : dq_1 c p x = true) : (Reader.u1 : Decoder Nat) c p = .ok (x, p + 1) := by
  unfold dq_1 at h
  split at h
  · next a r e => rw [← Nat.eq_of_beq_eq_true h]; exact (dq_u e).1
  · cases h
theorem dq_2u {v : Nat} (h : dq_2 c p x v = true) : (Reader.u1 : Decoder Nat) c p = .ok (x, p + 1) ∧ (Reader.u1 : Decoder Nat) c (p + 1) = .ok (v, p + 2) := by
  unfold dq_2 at h
  split at h
  · next a b r e =>
    rw [Bool.and_eq_true] at h
    rw [← Nat.eq_of_beq_eq_true h.1, ← Nat.eq_of_beq_eq_true h.2]
    exact ⟨(dq_u e).1, (dq_u (dq_u e).2).1⟩
  · cases h
theorem dq_su {v : Int} (h : dq_s c p x v = true) : (Reader.u1 : Decoder Nat) c p = .ok (x, p + 1) ∧ (Reader.s1 : Decoder Int) c (p + 1) = .ok (v, p + 2) := by
  unfold dq_s at h
  split at h
  · next a b r e =>
    rw [Bool.and_eq_true] at h
    have e1 : (Reader.s1 : Decoder Int) c (p + 1) = Except.bind ((Reader.u1 : Decoder Nat) c (p + 1)) (fun a => .ok (Reader.signed 8 a.1, a.2)) := rfl
    rw [← Nat.eq_of_beq_eq_true h.1, ← of_decide_eq_true h.2, e1, (dq_u (dq_u e).2).1]
    exact ⟨(dq_u e).1, rfl⟩
  · cases h
theorem dq_v {b d : UInt8} {r : List UInt8} (e : dq_l c p = b :: d :: r) : (Reader.u2 : Decoder Nat) c p = .ok (b.toNat * 256 + d.toNat, p + 2) := by
  have e1 : (Reader.u2 : Decoder Nat) c p = Except.bind ((Reader.u1 : Decoder Nat) c p) (fun a => Except.bind ((Reader.u1 : Decoder Nat) c a.2) (fun b => .ok (a.1 * 256 + b.1, b.2))) := rfl
  rw [e1, (dq_u e).1]
  show Except.bind ((Reader.u1 : Decoder Nat) c (p + 1)) _ = _
  rw [(dq_u (dq_u e).2).1]
  rfl
theorem dq_3u {v : Nat} (h : dq_3 c p x v = true) : (Reader.u1 : Decoder Nat) c p = .ok (x, p + 1) ∧ (Reader.u2 : Decoder Nat) c (p + 1) = .ok (v, p + 3) := by
  unfold dq_3 at h
  split at h
  · next a b d r e =>
    rw [Bool.and_eq_true] at h
    rw [← Nat.eq_of_beq_eq_true h.1, ← Nat.eq_of_beq_eq_true h.2]
    exact ⟨(dq_u e).1, dq_v (dq_u e).2⟩
  · cases h
theorem dq_tu {v : Int} (h : dq_t c p x v = true) : (Reader.u1 : Decoder Nat) c p = .ok (x, p + 1) ∧ (Reader.s2 : Decoder Int) c (p + 1) = .ok (v, p + 3) := by
  unfold dq_t at h
  split at h
  · next a b d r e =>
    rw [Bool.and_eq_true] at h
    have e1 : (Reader.s2 : Decoder Int) c (p + 1) = Except.bind ((Reader.u2 : Decoder Nat) c (p + 1)) (fun a => .ok (Reader.signed 16 a.1, a.2)) := rfl
    rw [← Nat.eq_of_beq_eq_true h.1, ← of_decide_eq_true h.2, e1, dq_v (dq_u e).2]
    exact ⟨(dq_u e).1, rfl⟩
  · cases h
variable {i : Instr} {K : Nat → Decoder Instr}
theorem dk_gen {k : Nat} (hK : Decoder.instr p = Bind.bind Reader.u1 K) (h1 : (Reader.u1 : Decoder Nat) c p = .ok (x, p + 1)) (h2 : K x c (p + 1) = .ok (i, p + k)) : decode c p = .ok (i, k) := by
  have e : decode c p = Except.bind (Decoder.instr p c p) (fun a => .ok (a.1, a.2 - p)) := rfl
  have e2 : (Bind.bind Reader.u1 K : Decoder Instr) c p = Except.bind ((Reader.u1 : Decoder Nat) c p) (fun a => K a.1 c a.2) := rfl
  rw [e, hK, e2, h1]
  show Except.bind (K x c (p + 1)) _ = _
  rw [h2]
  show Except.ok (i, p + k - p) = _
  rw [Nat.add_sub_cancel_left]
theorem dk_0 (hK : Decoder.instr p = Bind.bind Reader.u1 K) (hk : K x = Pure.pure i) (h : dq_1 c p x = true) : decode c p = .ok (i, 1) :=
  dk_gen hK (dq_1u h) (by rw [hk]; rfl)
theorem dk_u1 {f : Nat → Instr} {v : Nat} (hK : Decoder.instr p = Bind.bind Reader.u1 K) (hk : K x = Bind.bind Reader.u1 (fun y => Pure.pure (f y))) (h : dq_2 c p x v = true) : decode c p = .ok (f v, 2) := by
  refine dk_gen hK (dq_2u h).1 ?_
  rw [hk]
  show Except.bind ((Reader.u1 : Decoder Nat) c (p + 1)) (fun a => .ok (f a.1, a.2)) = _
  rw [(dq_2u h).2]
  rfl
theorem dk_s1 {f : Int → Instr} {v : Int} (hK : Decoder.instr p = Bind.bind Reader.u1 K) (hk : K x = Bind.bind Reader.s1 (fun y => Pure.pure (f y))) (h : dq_s c p x v = true) : decode c p = .ok (f v, 2) := by
  refine dk_gen hK (dq_su h).1 ?_
  rw [hk]
  show Except.bind ((Reader.s1 : Decoder Int) c (p + 1)) (fun a => .ok (f a.1, a.2)) = _
  rw [(dq_su h).2]
  rfl
theorem dk_u2 {f : Nat → Instr} {v : Nat} (hK : Decoder.instr p = Bind.bind Reader.u1 K) (hk : K x = Bind.bind Reader.u2 (fun y => Pure.pure (f y))) (h : dq_3 c p x v = true) : decode c p = .ok (f v, 3) := by
  refine dk_gen hK (dq_3u h).1 ?_
  rw [hk]
  show Except.bind ((Reader.u2 : Decoder Nat) c (p + 1)) (fun a => .ok (f a.1, a.2)) = _
  rw [(dq_3u h).2]
  rfl
theorem dk_s2 {f : Int → Instr} {v : Int} (hK : Decoder.instr p = Bind.bind Reader.u1 K) (hk : K x = Bind.bind Reader.s2 (fun y => Pure.pure (f y))) (h : dq_t c p x v = true) : decode c p = .ok (f v, 3) := by
  refine dk_gen hK (dq_tu h).1 ?_
  rw [hk]
  show Except.bind ((Reader.s2 : Decoder Int) c (p + 1)) (fun a => .ok (f a.1, a.2)) = _
  rw [(dq_tu h).2]
  rfl
set_option maxRecDepth 100000 in
theorem dk_o1 (h : dq_1 c p 1 = true) : decode c p = .ok (.aconst_null, 1) := dk_0 (K := _) rfl rfl h
set_option maxRecDepth 100000 in
theorem dk_o2 (h : dq_1 c p 2 = true) : decode c p = .ok (.iconst (-1), 1) := dk_0 (K := _) rfl rfl h
set_option maxRecDepth 100000 in
theorem dk_o3 (h : dq_1 c p 3 = true) : decode c p = .ok (.iconst 0, 1) := dk_0 (K := _) rfl rfl h
set_option maxRecDepth 100000 in
theorem dk_o4 (h : dq_1 c p 4 = true) : decode c p = .ok (.iconst 1, 1) := dk_0 (K := _) rfl rfl h
set_option maxRecDepth 100000 in
theorem dk_o5 (h : dq_1 c p 5 = true) : decode c p = .ok (.iconst 2, 1) := dk_0 (K := _) rfl rfl h
set_option maxRecDepth 100000 in
theorem dk_o6 (h : dq_1 c p 6 = true) : decode c p = .ok (.iconst 3, 1) := dk_0 (K := _) rfl rfl h
set_option maxRecDepth 100000 in
theorem dk_o7 (h : dq_1 c p 7 = true) : decode c p = .ok (.iconst 4, 1) := dk_0 (K := _) rfl rfl h
set_option maxRecDepth 100000 in
theorem dk_o8 (h : dq_1 c p 8 = true) : decode c p = .ok (.iconst 5, 1) := dk_0 (K := _) rfl rfl h
set_option maxRecDepth 100000 in
theorem dk_o9 (h : dq_1 c p 9 = true) : decode c p = .ok (.lconst 0, 1) := dk_0 (K := _) rfl rfl h
set_option maxRecDepth 100000 in
theorem dk_o10 (h : dq_1 c p 10 = true) : decode c p = .ok (.lconst 1, 1) := dk_0 (K := _) rfl rfl h
set_option maxRecDepth 100000 in
theorem dk_o16 {v : Int} (h : dq_s c p 16 v = true) : decode c p = .ok (.bipush v, 2) := dk_s1 (K := _) (f := fun v => .bipush v) rfl rfl h
set_option maxRecDepth 100000 in
theorem dk_o17 {v : Int} (h : dq_t c p 17 v = true) : decode c p = .ok (.sipush v, 3) := dk_s2 (K := _) (f := fun v => .sipush v) rfl rfl h
set_option maxRecDepth 100000 in
theorem dk_o18 {v : Nat} (h : dq_2 c p 18 v = true) : decode c p = .ok (.ldc v, 2) := dk_u1 (K := _) (f := fun v => .ldc v) rfl rfl h
set_option maxRecDepth 100000 in
theorem dk_o19 {v : Nat} (h : dq_3 c p 19 v = true) : decode c p = .ok (.ldc_w v, 3) := dk_u2 (K := _) (f := fun v => .ldc_w v) rfl rfl h
set_option maxRecDepth 100000 in
theorem dk_o20 {v : Nat} (h : dq_3 c p 20 v = true) : decode c p = .ok (.ldc2_w v, 3) := dk_u2 (K := _) (f := fun v => .ldc2_w v) rfl rfl h
set_option maxRecDepth 100000 in
theorem dk_o21 {v : Nat} (h : dq_2 c p 21 v = true) : decode c p = .ok (.iload v, 2) := dk_u1 (K := _) (f := fun v => .iload v) rfl rfl h
set_option maxRecDepth 100000 in
theorem dk_o22 {v : Nat} (h : dq_2 c p 22 v = true) : decode c p = .ok (.lload v, 2) := dk_u1 (K := _) (f := fun v => .lload v) rfl rfl h
set_option maxRecDepth 100000 in
theorem dk_o25 {v : Nat} (h : dq_2 c p 25 v = true) : decode c p = .ok (.aload v, 2) := dk_u1 (K := _) (f := fun v => .aload v) rfl rfl h
set_option maxRecDepth 100000 in
theorem dk_o26 (h : dq_1 c p 26 = true) : decode c p = .ok (.iload_n 0, 1) := dk_0 (K := _) rfl rfl h
set_option maxRecDepth 100000 in
theorem dk_o27 (h : dq_1 c p 27 = true) : decode c p = .ok (.iload_n 1, 1) := dk_0 (K := _) rfl rfl h
set_option maxRecDepth 100000 in
theorem dk_o28 (h : dq_1 c p 28 = true) : decode c p = .ok (.iload_n 2, 1) := dk_0 (K := _) rfl rfl h
set_option maxRecDepth 100000 in
theorem dk_o29 (h : dq_1 c p 29 = true) : decode c p = .ok (.iload_n 3, 1) := dk_0 (K := _) rfl rfl h
set_option maxRecDepth 100000 in
theorem dk_o30 (h : dq_1 c p 30 = true) : decode c p = .ok (.lload_n 0, 1) := dk_0 (K := _) rfl rfl h
set_option maxRecDepth 100000 in
theorem dk_o31 (h : dq_1 c p 31 = true) : decode c p = .ok (.lload_n 1, 1) := dk_0 (K := _) rfl rfl h
set_option maxRecDepth 100000 in
theorem dk_o32 (h : dq_1 c p 32 = true) : decode c p = .ok (.lload_n 2, 1) := dk_0 (K := _) rfl rfl h
set_option maxRecDepth 100000 in
theorem dk_o33 (h : dq_1 c p 33 = true) : decode c p = .ok (.lload_n 3, 1) := dk_0 (K := _) rfl rfl h
set_option maxRecDepth 100000 in
theorem dk_o42 (h : dq_1 c p 42 = true) : decode c p = .ok (.aload_n 0, 1) := dk_0 (K := _) rfl rfl h
set_option maxRecDepth 100000 in
theorem dk_o43 (h : dq_1 c p 43 = true) : decode c p = .ok (.aload_n 1, 1) := dk_0 (K := _) rfl rfl h
set_option maxRecDepth 100000 in
theorem dk_o44 (h : dq_1 c p 44 = true) : decode c p = .ok (.aload_n 2, 1) := dk_0 (K := _) rfl rfl h
set_option maxRecDepth 100000 in
theorem dk_o45 (h : dq_1 c p 45 = true) : decode c p = .ok (.aload_n 3, 1) := dk_0 (K := _) rfl rfl h
set_option maxRecDepth 100000 in
theorem dk_o46 (h : dq_1 c p 46 = true) : decode c p = .ok (.iaload, 1) := dk_0 (K := _) rfl rfl h
set_option maxRecDepth 100000 in
theorem dk_o47 (h : dq_1 c p 47 = true) : decode c p = .ok (.laload, 1) := dk_0 (K := _) rfl rfl h
set_option maxRecDepth 100000 in
theorem dk_o50 (h : dq_1 c p 50 = true) : decode c p = .ok (.aaload, 1) := dk_0 (K := _) rfl rfl h
set_option maxRecDepth 100000 in
theorem dk_o51 (h : dq_1 c p 51 = true) : decode c p = .ok (.baload, 1) := dk_0 (K := _) rfl rfl h
set_option maxRecDepth 100000 in
theorem dk_o54 {v : Nat} (h : dq_2 c p 54 v = true) : decode c p = .ok (.istore v, 2) := dk_u1 (K := _) (f := fun v => .istore v) rfl rfl h
set_option maxRecDepth 100000 in
theorem dk_o55 {v : Nat} (h : dq_2 c p 55 v = true) : decode c p = .ok (.lstore v, 2) := dk_u1 (K := _) (f := fun v => .lstore v) rfl rfl h
set_option maxRecDepth 100000 in
theorem dk_o58 {v : Nat} (h : dq_2 c p 58 v = true) : decode c p = .ok (.astore v, 2) := dk_u1 (K := _) (f := fun v => .astore v) rfl rfl h
set_option maxRecDepth 100000 in
theorem dk_o60 (h : dq_1 c p 60 = true) : decode c p = .ok (.istore_n 1, 1) := dk_0 (K := _) rfl rfl h
set_option maxRecDepth 100000 in
theorem dk_o61 (h : dq_1 c p 61 = true) : decode c p = .ok (.istore_n 2, 1) := dk_0 (K := _) rfl rfl h
set_option maxRecDepth 100000 in
theorem dk_o62 (h : dq_1 c p 62 = true) : decode c p = .ok (.istore_n 3, 1) := dk_0 (K := _) rfl rfl h
set_option maxRecDepth 100000 in
theorem dk_o64 (h : dq_1 c p 64 = true) : decode c p = .ok (.lstore_n 1, 1) := dk_0 (K := _) rfl rfl h
set_option maxRecDepth 100000 in
theorem dk_o65 (h : dq_1 c p 65 = true) : decode c p = .ok (.lstore_n 2, 1) := dk_0 (K := _) rfl rfl h
set_option maxRecDepth 100000 in
theorem dk_o66 (h : dq_1 c p 66 = true) : decode c p = .ok (.lstore_n 3, 1) := dk_0 (K := _) rfl rfl h
set_option maxRecDepth 100000 in
theorem dk_o76 (h : dq_1 c p 76 = true) : decode c p = .ok (.astore_n 1, 1) := dk_0 (K := _) rfl rfl h
set_option maxRecDepth 100000 in
theorem dk_o77 (h : dq_1 c p 77 = true) : decode c p = .ok (.astore_n 2, 1) := dk_0 (K := _) rfl rfl h
set_option maxRecDepth 100000 in
theorem dk_o78 (h : dq_1 c p 78 = true) : decode c p = .ok (.astore_n 3, 1) := dk_0 (K := _) rfl rfl h
set_option maxRecDepth 100000 in
theorem dk_o79 (h : dq_1 c p 79 = true) : decode c p = .ok (.iastore, 1) := dk_0 (K := _) rfl rfl h
set_option maxRecDepth 100000 in
theorem dk_o80 (h : dq_1 c p 80 = true) : decode c p = .ok (.lastore, 1) := dk_0 (K := _) rfl rfl h
set_option maxRecDepth 100000 in
theorem dk_o83 (h : dq_1 c p 83 = true) : decode c p = .ok (.aastore, 1) := dk_0 (K := _) rfl rfl h
set_option maxRecDepth 100000 in
theorem dk_o84 (h : dq_1 c p 84 = true) : decode c p = .ok (.bastore, 1) := dk_0 (K := _) rfl rfl h
set_option maxRecDepth 100000 in
theorem dk_o87 (h : dq_1 c p 87 = true) : decode c p = .ok (.pop, 1) := dk_0 (K := _) rfl rfl h
set_option maxRecDepth 100000 in
theorem dk_o88 (h : dq_1 c p 88 = true) : decode c p = .ok (.pop2, 1) := dk_0 (K := _) rfl rfl h
set_option maxRecDepth 100000 in
theorem dk_o89 (h : dq_1 c p 89 = true) : decode c p = .ok (.dup, 1) := dk_0 (K := _) rfl rfl h
set_option maxRecDepth 100000 in
theorem dk_o90 (h : dq_1 c p 90 = true) : decode c p = .ok (.dup_x1, 1) := dk_0 (K := _) rfl rfl h
set_option maxRecDepth 100000 in
theorem dk_o92 (h : dq_1 c p 92 = true) : decode c p = .ok (.dup2, 1) := dk_0 (K := _) rfl rfl h
set_option maxRecDepth 100000 in
theorem dk_o96 (h : dq_1 c p 96 = true) : decode c p = .ok (.iadd, 1) := dk_0 (K := _) rfl rfl h
set_option maxRecDepth 100000 in
theorem dk_o97 (h : dq_1 c p 97 = true) : decode c p = .ok (.ladd, 1) := dk_0 (K := _) rfl rfl h
set_option maxRecDepth 100000 in
theorem dk_o100 (h : dq_1 c p 100 = true) : decode c p = .ok (.isub, 1) := dk_0 (K := _) rfl rfl h
set_option maxRecDepth 100000 in
theorem dk_o101 (h : dq_1 c p 101 = true) : decode c p = .ok (.lsub, 1) := dk_0 (K := _) rfl rfl h
set_option maxRecDepth 100000 in
theorem dk_o104 (h : dq_1 c p 104 = true) : decode c p = .ok (.imul, 1) := dk_0 (K := _) rfl rfl h
set_option maxRecDepth 100000 in
theorem dk_o105 (h : dq_1 c p 105 = true) : decode c p = .ok (.lmul, 1) := dk_0 (K := _) rfl rfl h
set_option maxRecDepth 100000 in
theorem dk_o109 (h : dq_1 c p 109 = true) : decode c p = .ok (.ldiv, 1) := dk_0 (K := _) rfl rfl h
set_option maxRecDepth 100000 in
theorem dk_o113 (h : dq_1 c p 113 = true) : decode c p = .ok (.lrem, 1) := dk_0 (K := _) rfl rfl h
set_option maxRecDepth 100000 in
theorem dk_o116 (h : dq_1 c p 116 = true) : decode c p = .ok (.ineg, 1) := dk_0 (K := _) rfl rfl h
set_option maxRecDepth 100000 in
theorem dk_o117 (h : dq_1 c p 117 = true) : decode c p = .ok (.lneg, 1) := dk_0 (K := _) rfl rfl h
set_option maxRecDepth 100000 in
theorem dk_o120 (h : dq_1 c p 120 = true) : decode c p = .ok (.ishl, 1) := dk_0 (K := _) rfl rfl h
set_option maxRecDepth 100000 in
theorem dk_o121 (h : dq_1 c p 121 = true) : decode c p = .ok (.lshl, 1) := dk_0 (K := _) rfl rfl h
set_option maxRecDepth 100000 in
theorem dk_o122 (h : dq_1 c p 122 = true) : decode c p = .ok (.ishr, 1) := dk_0 (K := _) rfl rfl h
set_option maxRecDepth 100000 in
theorem dk_o123 (h : dq_1 c p 123 = true) : decode c p = .ok (.lshr, 1) := dk_0 (K := _) rfl rfl h
set_option maxRecDepth 100000 in
theorem dk_o124 (h : dq_1 c p 124 = true) : decode c p = .ok (.iushr, 1) := dk_0 (K := _) rfl rfl h
set_option maxRecDepth 100000 in
theorem dk_o126 (h : dq_1 c p 126 = true) : decode c p = .ok (.iand, 1) := dk_0 (K := _) rfl rfl h
set_option maxRecDepth 100000 in
theorem dk_o127 (h : dq_1 c p 127 = true) : decode c p = .ok (.land, 1) := dk_0 (K := _) rfl rfl h
set_option maxRecDepth 100000 in
theorem dk_o128 (h : dq_1 c p 128 = true) : decode c p = .ok (.ior, 1) := dk_0 (K := _) rfl rfl h
set_option maxRecDepth 100000 in
theorem dk_o129 (h : dq_1 c p 129 = true) : decode c p = .ok (.lor, 1) := dk_0 (K := _) rfl rfl h
set_option maxRecDepth 100000 in
theorem dk_o131 (h : dq_1 c p 131 = true) : decode c p = .ok (.lxor, 1) := dk_0 (K := _) rfl rfl h
set_option maxRecDepth 100000 in
theorem dk_o133 (h : dq_1 c p 133 = true) : decode c p = .ok (.i2l, 1) := dk_0 (K := _) rfl rfl h
set_option maxRecDepth 100000 in
theorem dk_o136 (h : dq_1 c p 136 = true) : decode c p = .ok (.l2i, 1) := dk_0 (K := _) rfl rfl h
set_option maxRecDepth 100000 in
theorem dk_o145 (h : dq_1 c p 145 = true) : decode c p = .ok (.i2b, 1) := dk_0 (K := _) rfl rfl h
set_option maxRecDepth 100000 in
theorem dk_o146 (h : dq_1 c p 146 = true) : decode c p = .ok (.i2c, 1) := dk_0 (K := _) rfl rfl h
set_option maxRecDepth 100000 in
theorem dk_o148 (h : dq_1 c p 148 = true) : decode c p = .ok (.lcmp, 1) := dk_0 (K := _) rfl rfl h
set_option maxRecDepth 100000 in
theorem dk_o153 {v : Int} (h : dq_t c p 153 v = true) : decode c p = .ok (.ifCond .eq v, 3) := dk_s2 (K := _) (f := fun v => .ifCond .eq v) rfl rfl h
set_option maxRecDepth 100000 in
theorem dk_o154 {v : Int} (h : dq_t c p 154 v = true) : decode c p = .ok (.ifCond .ne v, 3) := dk_s2 (K := _) (f := fun v => .ifCond .ne v) rfl rfl h
set_option maxRecDepth 100000 in
theorem dk_o155 {v : Int} (h : dq_t c p 155 v = true) : decode c p = .ok (.ifCond .lt v, 3) := dk_s2 (K := _) (f := fun v => .ifCond .lt v) rfl rfl h
set_option maxRecDepth 100000 in
theorem dk_o156 {v : Int} (h : dq_t c p 156 v = true) : decode c p = .ok (.ifCond .ge v, 3) := dk_s2 (K := _) (f := fun v => .ifCond .ge v) rfl rfl h
set_option maxRecDepth 100000 in
theorem dk_o157 {v : Int} (h : dq_t c p 157 v = true) : decode c p = .ok (.ifCond .gt v, 3) := dk_s2 (K := _) (f := fun v => .ifCond .gt v) rfl rfl h
set_option maxRecDepth 100000 in
theorem dk_o158 {v : Int} (h : dq_t c p 158 v = true) : decode c p = .ok (.ifCond .le v, 3) := dk_s2 (K := _) (f := fun v => .ifCond .le v) rfl rfl h
set_option maxRecDepth 100000 in
theorem dk_o159 {v : Int} (h : dq_t c p 159 v = true) : decode c p = .ok (.if_icmp .eq v, 3) := dk_s2 (K := _) (f := fun v => .if_icmp .eq v) rfl rfl h
set_option maxRecDepth 100000 in
theorem dk_o160 {v : Int} (h : dq_t c p 160 v = true) : decode c p = .ok (.if_icmp .ne v, 3) := dk_s2 (K := _) (f := fun v => .if_icmp .ne v) rfl rfl h
set_option maxRecDepth 100000 in
theorem dk_o161 {v : Int} (h : dq_t c p 161 v = true) : decode c p = .ok (.if_icmp .lt v, 3) := dk_s2 (K := _) (f := fun v => .if_icmp .lt v) rfl rfl h
set_option maxRecDepth 100000 in
theorem dk_o162 {v : Int} (h : dq_t c p 162 v = true) : decode c p = .ok (.if_icmp .ge v, 3) := dk_s2 (K := _) (f := fun v => .if_icmp .ge v) rfl rfl h
set_option maxRecDepth 100000 in
theorem dk_o163 {v : Int} (h : dq_t c p 163 v = true) : decode c p = .ok (.if_icmp .gt v, 3) := dk_s2 (K := _) (f := fun v => .if_icmp .gt v) rfl rfl h
set_option maxRecDepth 100000 in
theorem dk_o164 {v : Int} (h : dq_t c p 164 v = true) : decode c p = .ok (.if_icmp .le v, 3) := dk_s2 (K := _) (f := fun v => .if_icmp .le v) rfl rfl h
set_option maxRecDepth 100000 in
theorem dk_o165 {v : Int} (h : dq_t c p 165 v = true) : decode c p = .ok (.if_acmp .eq v, 3) := dk_s2 (K := _) (f := fun v => .if_acmp .eq v) rfl rfl h
set_option maxRecDepth 100000 in
theorem dk_o166 {v : Int} (h : dq_t c p 166 v = true) : decode c p = .ok (.if_acmp .ne v, 3) := dk_s2 (K := _) (f := fun v => .if_acmp .ne v) rfl rfl h
set_option maxRecDepth 100000 in
theorem dk_o167 {v : Int} (h : dq_t c p 167 v = true) : decode c p = .ok (.goto v, 3) := dk_s2 (K := _) (f := fun v => .goto v) rfl rfl h
set_option maxRecDepth 100000 in
theorem dk_o172 (h : dq_1 c p 172 = true) : decode c p = .ok (.ireturn, 1) := dk_0 (K := _) rfl rfl h
set_option maxRecDepth 100000 in
theorem dk_o173 (h : dq_1 c p 173 = true) : decode c p = .ok (.lreturn, 1) := dk_0 (K := _) rfl rfl h
set_option maxRecDepth 100000 in
theorem dk_o176 (h : dq_1 c p 176 = true) : decode c p = .ok (.areturn, 1) := dk_0 (K := _) rfl rfl h
set_option maxRecDepth 100000 in
theorem dk_o177 (h : dq_1 c p 177 = true) : decode c p = .ok (.return_, 1) := dk_0 (K := _) rfl rfl h
set_option maxRecDepth 100000 in
theorem dk_o178 {v : Nat} (h : dq_3 c p 178 v = true) : decode c p = .ok (.getstatic v, 3) := dk_u2 (K := _) (f := fun v => .getstatic v) rfl rfl h
set_option maxRecDepth 100000 in
theorem dk_o180 {v : Nat} (h : dq_3 c p 180 v = true) : decode c p = .ok (.getfield v, 3) := dk_u2 (K := _) (f := fun v => .getfield v) rfl rfl h
set_option maxRecDepth 100000 in
theorem dk_o181 {v : Nat} (h : dq_3 c p 181 v = true) : decode c p = .ok (.putfield v, 3) := dk_u2 (K := _) (f := fun v => .putfield v) rfl rfl h
set_option maxRecDepth 100000 in
theorem dk_o182 {v : Nat} (h : dq_3 c p 182 v = true) : decode c p = .ok (.invokevirtual v, 3) := dk_u2 (K := _) (f := fun v => .invokevirtual v) rfl rfl h
set_option maxRecDepth 100000 in
theorem dk_o183 {v : Nat} (h : dq_3 c p 183 v = true) : decode c p = .ok (.invokespecial v, 3) := dk_u2 (K := _) (f := fun v => .invokespecial v) rfl rfl h
set_option maxRecDepth 100000 in
theorem dk_o184 {v : Nat} (h : dq_3 c p 184 v = true) : decode c p = .ok (.invokestatic v, 3) := dk_u2 (K := _) (f := fun v => .invokestatic v) rfl rfl h
set_option maxRecDepth 100000 in
theorem dk_o187 {v : Nat} (h : dq_3 c p 187 v = true) : decode c p = .ok (.new v, 3) := dk_u2 (K := _) (f := fun v => .new v) rfl rfl h
set_option maxRecDepth 100000 in
theorem dk_o189 {v : Nat} (h : dq_3 c p 189 v = true) : decode c p = .ok (.anewarray v, 3) := dk_u2 (K := _) (f := fun v => .anewarray v) rfl rfl h
set_option maxRecDepth 100000 in
theorem dk_o190 (h : dq_1 c p 190 = true) : decode c p = .ok (.arraylength, 1) := dk_0 (K := _) rfl rfl h
set_option maxRecDepth 100000 in
theorem dk_o191 (h : dq_1 c p 191 = true) : decode c p = .ok (.athrow, 1) := dk_0 (K := _) rfl rfl h
set_option maxRecDepth 100000 in
theorem dk_o192 {v : Nat} (h : dq_3 c p 192 v = true) : decode c p = .ok (.checkcast v, 3) := dk_u2 (K := _) (f := fun v => .checkcast v) rfl rfl h
set_option maxRecDepth 100000 in
theorem dk_o198 {v : Int} (h : dq_t c p 198 v = true) : decode c p = .ok (.ifnull v, 3) := dk_s2 (K := _) (f := fun v => .ifnull v) rfl rfl h
set_option maxRecDepth 100000 in
theorem dk_o199 {v : Int} (h : dq_t c p 199 v = true) : decode c p = .ok (.ifnonnull v, 3) := dk_s2 (K := _) (f := fun v => .ifnonnull v) rfl rfl h
end DQ
