theorem TH_of {b : Nat} {s : State} (h : ∀ w ∈ lw_tbl, w.before #[Value.ref b] s = true) (hg : (Jvm.Cond.and given_1 narrow_1).before #[Value.ref b] s = true) : TH (fun q : Nat => s.heap.size ≤ q) s := by
  have hs := flat_of_before _ hg
  have hA : ∀ a : Nat, a < s.heap.size → ¬ (fun q : Nat => s.heap.size ≤ q) a := fun a ha => Nat.not_le.mpr ha
  exact ⟨⟨va_Zqof (h _ tw_1347) (h _ tw_133) (hs _ nw_211) hA, va_Zqof (h _ tw_1349) (h _ tw_133) (hs _ nw_212) hA⟩, tr_L_of (h _ tw_1347) hA, tr_L_of (h _ tw_1349) hA⟩
theorem tb_one {s : State} {w0 : Cond} (hT : TB s) (h1 : w0 ∈ lw_tbl) (ok : (tb_ok w0 && w0.onTables) = true := by first | rfl | decide +kernel) : ∀ w ∈ [w0], ∀ (a' : Array Value) (U : State), s.WarmedH U.vm → w.before a' U = true := by
  intro w hw a' U hW
  rw [List.mem_singleton.mp hw]
  exact tb_use (TB_warm hW hT) h1 ok
