theorem TB_of {args : Array Value} {s : State} (h : ∀ w ∈ lw_tbl, w.before args s = true) : TB s := by
  intro w hw ok
  have hb := h w hw
  unfold tb_ok at ok
  split at ok
  · exact va_Nw.of rfl hb
  · exact va_Nw.of rfl hb
  · exact va_Nw.of rfl hb
  · exact va_Nw.of rfl hb
  · exact va_AO.of hb
  · rcases good_of_word ok with h1 | ⟨ty, rfl⟩
    · rw [Bool.and_eq_true] at h1
      exact va_Nw.of h1.1 hb
    · exact hb
set_option maxRecDepth 100000 in
set_option maxHeartbeats 4000000 in
theorem K_of {args : Array Value} {s : State} (h : ∀ w ∈ lw_tbl, w.before args s = true) : ∃ (D : va_G) (cy : Nat → ClassId), va_K D vwCl (tyL cy) s := by
  obtain ⟨c0, i0, hn0⟩ := u_known (C := RJx00060) (T := TJx00060) (N := 6) (n := 6) h (fun w hw => (fJx00060 w hw).1) (h _ tw_1319)
  obtain ⟨c1, i1, hn1⟩ := u_known (C := RJx4a65c) (T := TJx4a65c) (N := 3) (n := 3) h (fun w hw => (fJx4a65c w hw).1) (h _ tw_253)
  obtain ⟨c2, i2, hn2⟩ := u_known (C := RX1) (T := TX1) (N := 10) (n := 10) h (fun w hw => (fX1 w hw).1) (h _ tw_471)
  obtain ⟨c3, i3, hn3⟩ := u_known (C := RX2) (T := TX2) (N := 11) (n := 11) h (fun w hw => (fX2 w hw).1) (h _ tw_247)
  obtain ⟨c4, i4, hn4⟩ := u_known (C := RX3) (T := TX3) (N := 5) (n := 5) h (fun w hw => (fX3 w hw).1) (h _ tw_554)
  obtain ⟨c5, i5, hn5⟩ := u_known (C := RX4) (T := TX4) (N := 5) (n := 5) h (fun w hw => (fX4 w hw).1) (h _ tw_863)
  obtain ⟨c6, i6, hn6⟩ := u_known (C := RX5) (T := TX5) (N := 6) (n := 6) h (fun w hw => (fX5 w hw).1) (h _ tw_680)
  obtain ⟨c7, i7, hn7⟩ := u_known (C := RX6) (T := TX6) (N := 2) (n := 2) h (fun w hw => (fX6 w hw).1) (h _ tw_194)
  obtain ⟨c8, i8, hn8⟩ := u_known (C := RX7) (T := TX7) (N := 9) (n := 9) h (fun w hw => (fX7 w hw).1) (h _ tw_895)
  obtain ⟨c9, i9, hn9⟩ := u_known (C := RX8) (T := TX8) (N := 15) (n := 15) h (fun w hw => (fX8 w hw).1) (h _ tw_765)
  obtain ⟨c10, i10, hn10⟩ := u_known (C := RX9) (T := TX9) (N := 5) (n := 5) h (fun w hw => (fX9 w hw).1) (h _ tw_147)
  obtain ⟨c11, i11, hn11⟩ := u_known (C := RX10) (T := TX10) (N := 6) (n := 6) h (fun w hw => (fX10 w hw).1) (h _ tw_721)
  obtain ⟨c12, i12, hn12⟩ := u_known (C := RX11) (T := TX11) (N := 0) (n := 6) h (fun w hw => (fX11 w hw).1) (h _ tw_372)
  obtain ⟨c13, i13, hn13⟩ := u_known (C := RX12) (T := TX12) (N := 4) (n := 4) h (fun w hw => (fX12 w hw).1) (h _ tw_153)
  obtain ⟨c14, i14, hn14⟩ := u_known (C := RX13) (T := TX13) (N := 9) (n := 9) h (fun w hw => (fX13 w hw).1) (h _ tw_139)
  obtain ⟨c15, i15, hn15⟩ := u_known (C := RX14) (T := TX14) (N := 76) (n := 76) h (fun w hw => (fX14 w hw).1) (h _ tw_1386)
  obtain ⟨a0, k0, p0, f0, g0, q0⟩ := Cond.arrayClass_spec (h _ tw_174)
  obtain ⟨a1, k1, p1, f1, g1, q1⟩ := Cond.arrayClass_spec (h _ tw_175)
  obtain ⟨a2, k2, p2, f2, g2, q2⟩ := Cond.arrayClass_spec (h _ tw_176)
  obtain ⟨a3, k3, p3, f3, g3, q3⟩ := Cond.arrayClass_spec (h _ tw_1620)
  obtain ⟨p4, a4, k4, r4, -, g4, q4, f4⟩ := Cond.arrayOver_spec (h _ tw_647)
  obtain ⟨p5, a5, k5, r5, -, g5, q5, f5⟩ := Cond.arrayOver_spec (h _ tw_159)
  obtain ⟨p6, a6, k6, r6, -, g6, q6, f6⟩ := Cond.arrayOver_spec (h _ tw_210)
  refine ⟨(fun k => if k = 0 then c0 else if k = 1 then c1 else if k = 2 then c2 else if k = 3 then c3 else if k = 4 then c4 else if k = 5 then c5 else if k = 6 then c6 else if k = 7 then c7 else if k = 8 then c8 else if k = 9 then c9 else if k = 10 then c10 else if k = 11 then c11 else if k = 12 then c12 else if k = 13 then c13 else if k = 14 then c14 else c15, fun k => if k = 0 then i0 else if k = 1 then i1 else if k = 2 then i2 else if k = 3 then i3 else if k = 4 then i4 else if k = 5 then i5 else if k = 6 then i6 else if k = 7 then i7 else if k = 8 then i8 else if k = 9 then i9 else if k = 10 then i10 else if k = 11 then i11 else if k = 12 then i12 else if k = 13 then i13 else if k = 14 then i14 else i15), fun k => if k = 0 then a0 else if k = 1 then a1 else if k = 2 then a2 else if k = 3 then a3 else if k = 4 then a4 else if k = 5 then a5 else a6, ?_, ?_⟩
  · intro k q hq
    match k, hq with
    | 0, hq => cases hq; exact hn0
    | 1, hq => cases hq; exact hn1
    | 2, hq => cases hq; exact hn2
    | 3, hq => cases hq; exact hn3
    | 4, hq => cases hq; exact hn4
    | 5, hq => cases hq; exact hn5
    | 6, hq => cases hq; exact hn6
    | 7, hq => cases hq; exact hn7
    | 8, hq => cases hq; exact hn8
    | 9, hq => cases hq; exact hn9
    | 10, hq => cases hq; exact hn10
    | 11, hq => cases hq; exact hn11
    | 12, hq => cases hq; exact hn12
    | 13, hq => cases hq; exact hn13
    | 14, hq => cases hq; exact hn14
    | 15, hq => cases hq; exact hn15
    | k + 16, hq => simp [vwCl] at hq
  · intro k q hq
    match k, hq with
    | 0, hq => cases hq; exact ⟨fun n z => ⟨fun k h => (by cases h), k0, g0, p0, q0⟩, f0⟩
    | 1, hq => cases hq; exact ⟨fun n z => ⟨fun k h => (by cases h), k1, g1, p1, q1⟩, f1⟩
    | 2, hq => cases hq; exact ⟨fun n z => ⟨fun k h => (by cases h), k2, g2, p2, q2⟩, f2⟩
    | 3, hq => cases hq; exact ⟨fun n z => ⟨fun k h => (by cases h), k3, g3, p3, q3⟩, f3⟩
    | 4, hq => cases hq; exact ⟨fun n z => ⟨fun k h => (by cases h), k4, g4, p4, q4⟩, k4, p4, g4, q4, r4, f4⟩
    | 5, hq => cases hq; exact ⟨fun n z => ⟨fun k h => (by cases h), k5, g5, p5, q5⟩, k5, p5, g5, q5, r5, f5⟩
    | 6, hq => cases hq; exact ⟨fun n z => ⟨fun k h => (by cases h), k6, g6, p6, q6⟩, k6, p6, g6, q6, r6, f6⟩
    | k + 7, hq => simp [tyL] at hq
theorem En_of {args : Array Value} {s : State} {E d : String} {nm : List String} {F : List (String × String × String × List Int32)} {A : Nat → Prop} (hl : ∀ i, i < nm.length → (Cond.laysStatic E (nm.getD i "") d).before args s = true) (hini : (Cond.initialized E).before args s = true)
    (hex : ∀ i, i < nm.length → (Cond.exactly (.static E (nm.getD i "") d) E).before args s = true) (hf : ∀ q ∈ F, ∀ i, i < nm.length → (Cond.eq (.field (.static E (nm.getD i "") d) q.1 q.2.1 q.2.2.1) (.int (q.2.2.2.getD i 0))).before args s = true)
    (hA : ∀ a : Nat, a < s.heap.size → ¬ A a) (qo : String × String × String × List Int32) (hqo : qo ∈ F) (hinj : ∀ i j, i < nm.length → j < nm.length → qo.2.2.2.getD i 0 = qo.2.2.2.getD j 0 → i = j) : ∃ ad : Nat → Nat, va_En E d nm F ad A s s.heap := by
  have h0 : ∀ i : Nat, ∃ t : Nat, i < nm.length → (Term.static E (nm.getD i "") d).eval args s none [] s = some (.ref t) ∧ va_O E t A s s.heap := by
    intro i
    by_cases hi : i < nm.length
    · obtain ⟨a, c, cell, k, q1, q2, q3, q4, q5, q6, -⟩ := Cond.exactly_spec (hex i hi)
      exact ⟨a, fun _ => ⟨q1, cell, q3, q5, by rw [q6]; exact q2, hA a (Array.getElem?_eq_some_iff.mp q3).1⟩⟩
    · exact ⟨0, fun h => absurd h hi⟩
  obtain ⟨ad, had⟩ := Classical.axiomOfChoice h0
  have hF : ∀ q ∈ F, ∀ i, i < nm.length → va_OF q.1 q.2.1 q.2.2.1 (.int (q.2.2.2.getD i 0)) (ad i) A s s.heap := by
    intro q hq
    exact va_Efof (N := nm.length) (E := E) (d0 := d) (nm := nm) (v := fun i => .int (q.2.2.2.getD i 0)) (tm := fun i => .int (q.2.2.2.getD i 0)) (fun i hi => (had i hi).1) (hf q hq) (fun i hi => rfl) hA
  refine ⟨ad, fun i hi => ⟨va_Zref (hl i hi) hini (had i hi).1 hA, (had i hi).2, fun q hq => hF q hq i hi⟩, fun i j hi hj e => ?_⟩
  obtain ⟨cf, k, fi, f, cell, a1, a2, a3, a4, a5, a6⟩ := hF qo hqo i hi
  obtain ⟨cf2, k2, fi2, f2, cell2, b1, b2, b3, b4, b5, b6⟩ := hF qo hqo j hj
  rw [e] at a3
  cases a1.symm.trans b1
  cases a3.symm.trans b3
  have hv := a5.symm.trans b5
  injection hv with hv
  injection hv with hv
  exact hinj i j hi hj hv
theorem tk_inj : ∀ i, i < 35 → ∀ j, j < 35 → ([0, 1, 2, 3, 4, 5, 6, 7, 8, 9, 10, 11, 12, 13, 14, 15, 16, 17, 18, 19, 20, 21, 22, 23, 24, 25, 26, 27, 28, 29, 30, 31, 32, 33, 34] : List Int32).getD i 0 = ([0, 1, 2, 3, 4, 5, 6, 7, 8, 9, 10, 11, 12, 13, 14, 15, 16, 17, 18, 19, 20, 21, 22, 23, 24, 25, 26, 27, 28, 29, 30, 31, 32, 33, 34] : List Int32).getD j 0 → i = j := by decide +kernel
set_option maxRecDepth 100000 in
set_option maxHeartbeats 4000000 in
theorem ES_of {b : Nat} {s : State} (h : ∀ w ∈ lw_tbl, w.before #[Value.ref b] s = true) (hg : (Jvm.Cond.and given_1 narrow_1).before #[Value.ref b] s = true) : ∃ (e0 : Nat) (tk : Nat → Nat), ES e0 tk (fun q : Nat => s.heap.size ≤ q) s := by
  have hs := flat_of_before _ hg
  have hA : ∀ a : Nat, a < s.heap.size → ¬ (fun q : Nat => s.heap.size ≤ q) a := fun a ha => Nat.not_le.mpr ha
  obtain ⟨e0, _, _, _, he0, -⟩ := Cond.exactly_spec (hs _ nw_6)
  have z0 := va_Zref (h _ tw_265) (h _ tw_113) he0 hA
  suffices hh : ∃ tk : Nat → Nat, va_En "DescribeText$Token" "LDescribeText$Token;" tkNm tkF tk (fun q : Nat => s.heap.size ≤ q) s s.heap by
    obtain ⟨tk, htk⟩ := hh
    exact ⟨e0, tk, z0, htk⟩
  refine En_of (E := "DescribeText$Token") (d := "LDescribeText$Token;") (nm := tkNm) (F := tkF) (A := fun q : Nat => s.heap.size ≤ q) (args := #[Value.ref b]) (s := s) ?_ (h _ tw_116) ?_ ?_ hA ("java/lang/Enum", "ordinal", "I", [0, 1, 2, 3, 4, 5, 6, 7, 8, 9, 10, 11, 12, 13, 14, 15, 16, 17, 18, 19, 20, 21, 22, 23, 24, 25, 26, 27, 28, 29, 30, 31, 32, 33, 34]) (by simp [tkF]) (fun i j hi hj => tk_inj i hi j hj)
  · intro i hi
    match i, hi with
    | 0, _ => exact h _ tw_423
    | 1, _ => exact h _ tw_430
    | 2, _ => exact h _ tw_432
    | 3, _ => exact h _ tw_358
    | 4, _ => exact h _ tw_548
    | 5, _ => exact h _ tw_656
    | 6, _ => exact h _ tw_593
    | 7, _ => exact h _ tw_845
    | 8, _ => exact h _ tw_535
    | 9, _ => exact h _ tw_672
    | 10, _ => exact h _ tw_670
    | 11, _ => exact h _ tw_1930
    | 12, _ => exact h _ tw_546
    | 13, _ => exact h _ tw_662
    | 14, _ => exact h _ tw_664
    | 15, _ => exact h _ tw_674
    | 16, _ => exact h _ tw_1931
    | 17, _ => exact h _ tw_713
    | 18, _ => exact h _ tw_715
    | 19, _ => exact h _ tw_759
    | 20, _ => exact h _ tw_847
    | 21, _ => exact h _ tw_849
    | 22, _ => exact h _ tw_1932
    | 23, _ => exact h _ tw_1933
    | 24, _ => exact h _ tw_1934
    | 25, _ => exact h _ tw_966
    | 26, _ => exact h _ tw_968
    | 27, _ => exact h _ tw_1935
    | 28, _ => exact h _ tw_1936
    | 29, _ => exact h _ tw_1937
    | 30, _ => exact h _ tw_1938
    | 31, _ => exact h _ tw_1939
    | 32, _ => exact h _ tw_1940
    | 33, _ => exact h _ tw_1241
    | 34, _ => exact h _ tw_960
    | i + 35, hi => exact absurd hi (by simp [tkNm])
  · intro i hi
    match i, hi with
    | 0, _ => exact hs _ nw_58
    | 1, _ => exact hs _ nw_63
    | 2, _ => exact hs _ nw_68
    | 3, _ => exact hs _ nw_8
    | 4, _ => exact hs _ nw_121
    | 5, _ => exact hs _ nw_131
    | 6, _ => exact hs _ nw_126
    | 7, _ => exact hs _ nw_176
    | 8, _ => exact hs _ nw_111
    | 9, _ => exact hs _ nw_151
    | 10, _ => exact hs _ nw_146
    | 11, _ => exact hs _ nw_213
    | 12, _ => exact hs _ nw_116
    | 13, _ => exact hs _ nw_136
    | 14, _ => exact hs _ nw_141
    | 15, _ => exact hs _ nw_156
    | 16, _ => exact hs _ nw_218
    | 17, _ => exact hs _ nw_161
    | 18, _ => exact hs _ nw_166
    | 19, _ => exact hs _ nw_171
    | 20, _ => exact hs _ nw_181
    | 21, _ => exact hs _ nw_186
    | 22, _ => exact hs _ nw_223
    | 23, _ => exact hs _ nw_228
    | 24, _ => exact hs _ nw_233
    | 25, _ => exact hs _ nw_196
    | 26, _ => exact hs _ nw_201
    | 27, _ => exact hs _ nw_238
    | 28, _ => exact hs _ nw_243
    | 29, _ => exact hs _ nw_248
    | 30, _ => exact hs _ nw_253
    | 31, _ => exact hs _ nw_258
    | 32, _ => exact hs _ nw_263
    | 33, _ => exact hs _ nw_206
    | 34, _ => exact hs _ nw_191
    | i + 35, hi => exact absurd hi (by simp [tkNm])
  · intro q hq i hi
    simp only [tkF, List.mem_cons, List.not_mem_nil, or_false] at hq
    rcases hq with rfl | rfl | rfl
    · match i, hi with
      | 0, _ => exact hs _ nw_61
      | 1, _ => exact hs _ nw_66
      | 2, _ => exact hs _ nw_71
      | 3, _ => exact hs _ nw_11
      | 4, _ => exact hs _ nw_124
      | 5, _ => exact hs _ nw_134
      | 6, _ => exact hs _ nw_129
      | 7, _ => exact hs _ nw_179
      | 8, _ => exact hs _ nw_114
      | 9, _ => exact hs _ nw_154
      | 10, _ => exact hs _ nw_149
      | 11, _ => exact hs _ nw_216
      | 12, _ => exact hs _ nw_119
      | 13, _ => exact hs _ nw_139
      | 14, _ => exact hs _ nw_144
      | 15, _ => exact hs _ nw_159
      | 16, _ => exact hs _ nw_221
      | 17, _ => exact hs _ nw_164
      | 18, _ => exact hs _ nw_169
      | 19, _ => exact hs _ nw_174
      | 20, _ => exact hs _ nw_184
      | 21, _ => exact hs _ nw_189
      | 22, _ => exact hs _ nw_226
      | 23, _ => exact hs _ nw_231
      | 24, _ => exact hs _ nw_236
      | 25, _ => exact hs _ nw_199
      | 26, _ => exact hs _ nw_204
      | 27, _ => exact hs _ nw_241
      | 28, _ => exact hs _ nw_246
      | 29, _ => exact hs _ nw_251
      | 30, _ => exact hs _ nw_256
      | 31, _ => exact hs _ nw_261
      | 32, _ => exact hs _ nw_266
      | 33, _ => exact hs _ nw_209
      | 34, _ => exact hs _ nw_194
      | i + 35, hi => exact absurd hi (by simp [tkNm])
    · match i, hi with
      | 0, _ => exact hs _ nw_62
      | 1, _ => exact hs _ nw_67
      | 2, _ => exact hs _ nw_72
      | 3, _ => exact hs _ nw_12
      | 4, _ => exact hs _ nw_125
      | 5, _ => exact hs _ nw_135
      | 6, _ => exact hs _ nw_130
      | 7, _ => exact hs _ nw_180
      | 8, _ => exact hs _ nw_115
      | 9, _ => exact hs _ nw_155
      | 10, _ => exact hs _ nw_150
      | 11, _ => exact hs _ nw_217
      | 12, _ => exact hs _ nw_120
      | 13, _ => exact hs _ nw_140
      | 14, _ => exact hs _ nw_145
      | 15, _ => exact hs _ nw_160
      | 16, _ => exact hs _ nw_222
      | 17, _ => exact hs _ nw_165
      | 18, _ => exact hs _ nw_170
      | 19, _ => exact hs _ nw_175
      | 20, _ => exact hs _ nw_185
      | 21, _ => exact hs _ nw_190
      | 22, _ => exact hs _ nw_227
      | 23, _ => exact hs _ nw_232
      | 24, _ => exact hs _ nw_237
      | 25, _ => exact hs _ nw_200
      | 26, _ => exact hs _ nw_205
      | 27, _ => exact hs _ nw_242
      | 28, _ => exact hs _ nw_247
      | 29, _ => exact hs _ nw_252
      | 30, _ => exact hs _ nw_257
      | 31, _ => exact hs _ nw_262
      | 32, _ => exact hs _ nw_267
      | 33, _ => exact hs _ nw_210
      | 34, _ => exact hs _ nw_195
      | i + 35, hi => exact absurd hi (by simp [tkNm])
    · match i, hi with
      | 0, _ => exact hs _ nw_59
      | 1, _ => exact hs _ nw_64
      | 2, _ => exact hs _ nw_69
      | 3, _ => exact hs _ nw_9
      | 4, _ => exact hs _ nw_122
      | 5, _ => exact hs _ nw_132
      | 6, _ => exact hs _ nw_127
      | 7, _ => exact hs _ nw_177
      | 8, _ => exact hs _ nw_112
      | 9, _ => exact hs _ nw_152
      | 10, _ => exact hs _ nw_147
      | 11, _ => exact hs _ nw_214
      | 12, _ => exact hs _ nw_117
      | 13, _ => exact hs _ nw_137
      | 14, _ => exact hs _ nw_142
      | 15, _ => exact hs _ nw_157
      | 16, _ => exact hs _ nw_219
      | 17, _ => exact hs _ nw_162
      | 18, _ => exact hs _ nw_167
      | 19, _ => exact hs _ nw_172
      | 20, _ => exact hs _ nw_182
      | 21, _ => exact hs _ nw_187
      | 22, _ => exact hs _ nw_224
      | 23, _ => exact hs _ nw_229
      | 24, _ => exact hs _ nw_234
      | 25, _ => exact hs _ nw_197
      | 26, _ => exact hs _ nw_202
      | 27, _ => exact hs _ nw_239
      | 28, _ => exact hs _ nw_244
      | 29, _ => exact hs _ nw_249
      | 30, _ => exact hs _ nw_254
      | 31, _ => exact hs _ nw_259
      | 32, _ => exact hs _ nw_264
      | 33, _ => exact hs _ nw_207
      | 34, _ => exact hs _ nw_192
      | i + 35, hi => exact absurd hi (by simp [tkNm])