/-! the words that a method may hand on -/
def zk_WS : List Cond := lw_tbl.filter goodWord
theorem zk_WS_good {w : Cond} (h : w ∈ zk_WS) : goodWord w = true := (List.mem_filter.mp h).2
theorem zk_WS_tbl {w : Cond} (h : w ∈ zk_WS) : w ∈ lw_tbl := (List.mem_filter.mp h).1
theorem zk_tb {w : Cond} (i : Nat) (h : tables_1[i]? = some w) : w ∈ lw_tbl := List.mem_append_right _ (List.mem_of_getElem? h)
theorem zk_wi {w : Cond} (i : Nat) (h : tables_1[i]? = some w) (hg : goodWord w = true) : w ∈ zk_WS := List.mem_filter.mpr ⟨zk_tb i h, hg⟩
theorem zk_w_arrI : Cond.arrayClass .int ∈ zk_WS := zk_wi 479 (by decide +kernel) rfl
theorem zk_w_over (Cn : String) (h : Cn ∈ [RX6, RX1, RX9, RX7]) : Cond.arrayOver (.object Cn) ∈ lw_tbl := by
  simp only [List.mem_cons, List.not_mem_nil, or_false] at h
  rcases h with rfl | rfl | rfl | rfl
  · exact zk_tb 427 (by decide +kernel)
  · exact zk_tb 429 (by decide +kernel)
  · exact zk_tb 431 (by decide +kernel)
  · exact zk_tb 433 (by decide +kernel)
theorem zk_w_overA : Cond.arrayOver (.array .int) ∈ lw_tbl := zk_tb 574 (by decide +kernel)
