/-! what holds of the machine at the law's start -/
theorem zk_ini : ∀ (k : Nat) (q : vw_C), vwCl[k]? = some q → (∀ w ∈ u_ws q.1 q.2.1 q.2.2, w ∈ lw_tbl) ∧ ∃ n, Cond.instantiable q.1 n ∈ lw_tbl := by
  intro k q hq
  match k, hq with
  | 0, hq => cases hq; exact ⟨fun w h => zk_WS_tbl (iw_X0 w h), 2, zk_tb 521 (by decide +kernel)⟩
  | 1, hq => cases hq; exact ⟨fun w h => zk_WS_tbl (iw_X1 w h), 8, zk_tb 831 (by decide +kernel)⟩
  | 2, hq => cases hq; exact ⟨fun w h => zk_WS_tbl (iw_X3 w h), 4, zk_tb 535 (by decide +kernel)⟩
  | 3, hq => cases hq; exact ⟨fun w h => zk_WS_tbl (iw_X4 w h), 5, zk_tb 769 (by decide +kernel)⟩
  | 4, hq => cases hq; exact ⟨fun w h => zk_WS_tbl (iw_X5 w h), 9, zk_tb 421 (by decide +kernel)⟩
  | 5, hq => cases hq; exact ⟨fun w h => zk_WS_tbl (iw_X6 w h), 8, zk_tb 668 (by decide +kernel)⟩
  | 6, hq => cases hq; exact ⟨fun w h => zk_WS_tbl (iw_X7 w h), 7, zk_tb 904 (by decide +kernel)⟩
  | 7, hq => cases hq; exact ⟨fun w h => zk_WS_tbl (iw_X8 w h), 7, zk_tb 481 (by decide +kernel)⟩
  | 8, hq => cases hq; exact ⟨fun w h => zk_WS_tbl (iw_X8 w h), 7, zk_tb 481 (by decide +kernel)⟩
  | 9, hq => cases hq; exact ⟨fun w h => zk_WS_tbl (iw_X10 w h), 5, zk_tb 26 (by decide +kernel)⟩
  | 10, hq => cases hq; exact ⟨fun w h => zk_WS_tbl (iw_X11 w h), 12, zk_tb 410 (by decide +kernel)⟩
  | k + 11, hq => simp [vwCl] at hq
def zk_tyl : List FieldType := [.int, .int, .int, .object RX6, .object RX1, .object RX9, .object RX7, .array .int]
theorem zk_arr_p {args : Array Value} {s : State} {t : FieldType} (h : (Cond.arrayClass t).before args s = true) : ∃ c, ArrOfT s c t ∧ s.vm.findClass ("[" ++ t.toString) = some c := by
  obtain ⟨c, k, comp, h1, h2, h3⟩ := Cond.arrayClass_spec h
  exact ⟨c, fun n z => ⟨fun k h => (by cases h), k, h2, comp, h3⟩, h1⟩
theorem zk_arr_o {args : Array Value} {s : State} {n : String} (h : (Cond.arrayOver (.object n)).before args s = true) : ∃ c, ArrOfT s c (.object n) ∧ va_RA s c (.object n) := by
  obtain ⟨comp, c, k, h1, h2, h3, h4, h5⟩ := Cond.arrayOver_spec h
  exact ⟨c, fun n z => ⟨fun k h => (by cases h), k, h3, comp, h4⟩, k, comp, h3, h4, h1, h5⟩
theorem zk_arr_a {args : Array Value} {s : State} {t : FieldType} (h : (Cond.arrayOver (.array t)).before args s = true) : ∃ c, ArrOfT s c (.array t) ∧ va_RA s c (.array t) := by
  obtain ⟨comp, c, k, h1, h2, h3, h4, h5⟩ := arrayOver_specB h
  exact ⟨c, fun n z => ⟨fun k h => (by cases h), k, h3, comp, h4⟩, h5⟩
theorem zk_elem {args : Array Value} {s : State} {t : Term} {b : Nat} {cell : Cell} {i x : Int32} (ht : t.eval args s none [] s = some (.ref b)) (harr : s.arrayAt? b = some cell) (hi : ¬ i < 0) (h : (Cond.eq (.elem t (.int i)) (.int x)).before args s = true) : cell.slots[i.toNatClampNeg]? = some (.int x) := by
  have h2 := va_eqt h
  simpa [Term.eval, ht, harr, hi] using h2
theorem zk_len10 {args : Array Value} {s : State} {t : Term} {b : Nat} {cell : Cell} (ht : t.eval args s none [] s = some (.ref b)) (harr : s.arrayAt? b = some cell) (h : (Cond.eq (.length t) (.int 10)).before args s = true) : cell.slots.size = 10 := by
  have h2 := va_eqt h
  have hlt : cell.slots.size < 2147483648 := by
    by_cases w : cell.slots.size < 2147483648
    · exact w
    · simp [Term.eval, ht, harr, w] at h2
  have h9 : cell.slots.size.toInt32 = (10 : Int32) := by simpa [Term.eval, ht, harr, hlt] using h2
  have h10 : (nI cell.slots.size).toNatClampNeg = (10 : Int32).toNatClampNeg := congrArg Int32.toNatClampNeg h9
  rw [nI_clamp (by omega)] at h10
  exact h10
theorem zk_nx_nw {w : Cond} {A : Array Value} {s : State} (hn : zk_nx w = true) (h : w.before A s = true) : va_Nw w s := by
  cases w with
  | castable a b => exact va_Nw.of rfl h
  | declares x => exact va_Nw.of rfl h
  | methodLinkNest a i x h9 => exact va_Nw.of rfl h
  | fieldLinkNest a i b n d h9 => exact va_Nw.of rfl h
  | arrayOver t =>
    cases t with
    | object Cn => exact va_AO.of h
    | array t => exact h
    | _ => simp [zk_nx] at hn
  | _ => simp [zk_nx] at hn
theorem zk_strs_own : ∀ q ∈ zk_strs, Cond.stringRef q.1 q.2.1 q.2.2 ∈ lw_tbl := by
  intro q hq
  obtain ⟨w, hw, e⟩ := List.mem_filterMap.mp hq
  split at e
  · cases e
    exact hw
  · cases e
theorem zk_K_of {b L : Nat} {xs : Nat → Int32} {s : State} (hX : va_X b L xs s s.heap) (hts : ∀ w ∈ lw_tbl, w.before #[Value.ref b] s = true) (hgv : (Jvm.Cond.and given_1 narrow_1).before #[Value.ref b] s = true) : ∃ (D : va_G) (cT : Nat → ClassId), zk_K (s.heap.size, D, cT) s ∧ cT 99 = s.heap.size ∧ ∃ cell : Cell, s.heap[b]? = some cell ∧ cell.cls = cT 97 ∧ (∀ k, cell.vm ≠ .statics k) ∧ cell.vm ≠ .unknown ∧ cell.slots.size = L ∧ ∀ j, j < L → cell.slots[j]? = some (.int (xs j)) := by
  obtain ⟨scr, x1, x2, x3, x4, x5⟩ := hX
  have hgf := flat_of_before _ hgv
  have h1 : ∀ k : Nat, ∃ q2 : ClassId × (Nat → Nat), ∀ q : vw_C, vwCl[k]? = some q → u_Kn s q.1 q.2.1 q.2.2 q2.1 q2.2 := by
    intro k
    cases e : vwCl[k]? with
    | none => exact ⟨(0, fun _ => 0), fun q hq => by cases hq⟩
    | some q =>
      obtain ⟨g1, n, g2⟩ := zk_ini k q e
      obtain ⟨cC, iS, g3⟩ := u_known (C := q.1) (T := q.2.1) (N := q.2.2) (n := n) hts g1 (hts _ g2)
      exact ⟨(cC, iS), fun q' hq => by cases hq; exact g3⟩
  obtain ⟨dd, hd⟩ := Classical.axiomOfChoice h1
  have h2 : ∀ k : Nat, ∃ c : ClassId, (∀ ty, zk_tyl[k]? = some ty → ArrOfT s c ty ∧ va_RA s c ty) ∧ (k = 99 → c = s.heap.size) ∧ (k = 97 → c = scr.cls) := by
    intro k
    match k with
    | 0 =>
      obtain ⟨c, g1, g2⟩ := zk_arr_p (hts (.arrayClass .int) (zk_tb 479 (by decide +kernel)))
      exact ⟨c, fun ty h => by cases h; exact ⟨g1, g2⟩, fun h => absurd h (by decide), fun h => absurd h (by decide)⟩
    | 1 =>
      obtain ⟨c, g1, g2⟩ := zk_arr_p (hts (.arrayClass .int) (zk_tb 479 (by decide +kernel)))
      exact ⟨c, fun ty h => by cases h; exact ⟨g1, g2⟩, fun h => absurd h (by decide), fun h => absurd h (by decide)⟩
    | 2 =>
      obtain ⟨c, g1, g2⟩ := zk_arr_p (hts (.arrayClass .int) (zk_tb 479 (by decide +kernel)))
      exact ⟨c, fun ty h => by cases h; exact ⟨g1, g2⟩, fun h => absurd h (by decide), fun h => absurd h (by decide)⟩
    | 3 =>
      obtain ⟨c, g1⟩ := zk_arr_o (hts (.arrayOver (.object RX6)) (zk_tb 427 (by decide +kernel)))
      exact ⟨c, fun ty h => by cases h; exact g1, fun h => absurd h (by decide), fun h => absurd h (by decide)⟩
    | 4 =>
      obtain ⟨c, g1⟩ := zk_arr_o (hts (.arrayOver (.object RX1)) (zk_tb 429 (by decide +kernel)))
      exact ⟨c, fun ty h => by cases h; exact g1, fun h => absurd h (by decide), fun h => absurd h (by decide)⟩
    | 5 =>
      obtain ⟨c, g1⟩ := zk_arr_o (hts (.arrayOver (.object RX9)) (zk_tb 431 (by decide +kernel)))
      exact ⟨c, fun ty h => by cases h; exact g1, fun h => absurd h (by decide), fun h => absurd h (by decide)⟩
    | 6 =>
      obtain ⟨c, g1⟩ := zk_arr_o (hts (.arrayOver (.object RX7)) (zk_tb 433 (by decide +kernel)))
      exact ⟨c, fun ty h => by cases h; exact g1, fun h => absurd h (by decide), fun h => absurd h (by decide)⟩
    | 7 =>
      obtain ⟨c, g1⟩ := zk_arr_a (hts (.arrayOver (.array .int)) (zk_tb 574 (by decide +kernel)))
      exact ⟨c, fun ty h => by cases h; exact g1, fun h => absurd h (by decide), fun h => absurd h (by decide)⟩
    | k + 8 => exact ⟨if k = 91 then s.heap.size else scr.cls, fun ty h => by simp [zk_tyl] at h, fun h => if_pos (by omega), fun h => if_neg (by omega)⟩
  obtain ⟨cT, hT9⟩ := Classical.axiomOfChoice h2
  have hT := fun k => (hT9 k).1
  have h99 : cT 99 = s.heap.size := (hT9 99).2.1 rfl
  have h97 : cT 97 = scr.cls := (hT9 97).2.2 rfl
  have hsc : ArrOfT s (cT 97) .int := fun n z => ⟨fun k h => (by cases h), by rw [h97]; exact x2.2⟩
  refine ⟨(fun k => (dd k).1, fun k => (dd k).2), cT, ?_, h99, scr, x1, h97.symm, x2.1, x3, x4, x5⟩
  refine ⟨⟨fun k q hq => hd k q hq, fun k q hq => ?_⟩, ?_, ?_, fun w hw hn => zk_nx_nw hn (hts w hw), fun q hq => ?_, fun q hq => ?_, ?_⟩
  · match k, hq with
    | 0, hq => cases hq; exact hT 0 _ rfl
    | 1, hq => cases hq; exact hT 1 _ rfl
    | 2, hq => cases hq; exact hT 2 _ rfl
    | 3, hq => cases hq; exact hT 3 _ rfl
    | 4, hq => cases hq; exact hT 4 _ rfl
    | 5, hq => cases hq; exact hT 5 _ rfl
    | 6, hq => cases hq; exact hT 6 _ rfl
    | 7, hq => cases hq; exact hT 7 _ rfl
    | k + 8, hq => simp [zk_tys] at hq
  · exact vx_Zqof (hts (.laysStatic Bundle.tN "UNASSIGNED_STACK" Bundle.steD) (zk_tb 60 (by decide +kernel))) (hts (.initialized Bundle.tN) (zk_tb 7 (by decide +kernel))) (hgf _ (by decide +kernel)) (fun a ha => Nat.not_le.mpr ha)
  · exact vx_Zqof (hts (.laysStatic Bundle.tN "SUPPRESSED_SENTINEL" Bundle.listD) (zk_tb 62 (by decide +kernel))) (hts (.initialized Bundle.tN) (zk_tb 7 (by decide +kernel))) (hgf _ (by decide +kernel)) (fun a ha => Nat.not_le.mpr ha)
  · have hs := hts _ (zk_strs_own q hq)
    cases hcur : s.vm.findClass q.1 with
    | none => simp [Cond.before, Cond.holds, Cond.value, hcur] at hs
    | some cur =>
      have hs2 : (Cond.stringRef q.1 q.2.1 q.2.2).before #[] s = true := hs
      obtain ⟨k, cf, i, a2, g1, g2, g3, g4, g5, g7⟩ := Cond.stringRef_spec hcur hs2
      exact ⟨a2, hs2, g7⟩
  · have hq2 : q = ("java/lang/IllegalStateException", "java/lang/IllegalArgumentException") := by simpa [zk_ncs] using hq
    subst hq2
    exact va_Nc.of (hgf (.not (.castable "java/lang/IllegalStateException" "java/lang/IllegalArgumentException")) (by decide +kernel))
  · have hlen := va_eqt (hgf (.eq (.length (.static "ClerestoryPlan" "FIRST_LIMITS" "[I")) (.int 10)) (by decide +kernel))
    obtain ⟨t, cell, ht, harr, hz⟩ := Term.length_spec hlen
    obtain ⟨a, c, cell2, k2, q1, q2, q3, q4, q5, q6, -⟩ := Cond.exactly_spec (hgf (.exactly (.static "ClerestoryPlan" "FIRST_LIMITS" "[I") "[I") (by decide +kernel))
    cases ht.symm.trans q1
    obtain ⟨hcell, hv1, hv2, -⟩ := State.arrayAt?_spec harr
    cases hcell.symm.trans q3
    have hI : s.vm.findClass "[I" = some (cT 0) := (hT 0 _ rfl).2
    cases hI.symm.trans q2
    have hsz : cell.slots.size = 10 := zk_len10 ht harr (hgf (.eq (.length (.static "ClerestoryPlan" "FIRST_LIMITS" "[I")) (.int 10)) (by decide +kernel))
    have el : ∀ i : Nat, i < 10 → cell.slots[i]? = some (.int (zk_FL i)) := by
      intro i hi
      match i, hi with
      | 0, _ => exact zk_elem ht harr (i := 0) (by decide) (hgf (.eq (.elem (.static "ClerestoryPlan" "FIRST_LIMITS" "[I") (.int 0)) (.int 0)) (by decide +kernel))
      | 1, _ => exact zk_elem ht harr (i := 1) (by decide) (hgf (.eq (.elem (.static "ClerestoryPlan" "FIRST_LIMITS" "[I") (.int 1)) (.int 120)) (by decide +kernel))
      | 2, _ => exact zk_elem ht harr (i := 2) (by decide) (hgf (.eq (.elem (.static "ClerestoryPlan" "FIRST_LIMITS" "[I") (.int 2)) (.int 8)) (by decide +kernel))
      | 3, _ => exact zk_elem ht harr (i := 3) (by decide) (hgf (.eq (.elem (.static "ClerestoryPlan" "FIRST_LIMITS" "[I") (.int 3)) (.int 4)) (by decide +kernel))
      | 4, _ => exact zk_elem ht harr (i := 4) (by decide) (hgf (.eq (.elem (.static "ClerestoryPlan" "FIRST_LIMITS" "[I") (.int 4)) (.int 10)) (by decide +kernel))
      | 5, _ => exact zk_elem ht harr (i := 5) (by decide) (hgf (.eq (.elem (.static "ClerestoryPlan" "FIRST_LIMITS" "[I") (.int 5)) (.int 12)) (by decide +kernel))
      | 6, _ => exact zk_elem ht harr (i := 6) (by decide) (hgf (.eq (.elem (.static "ClerestoryPlan" "FIRST_LIMITS" "[I") (.int 6)) (.int 50)) (by decide +kernel))
      | 7, _ => exact zk_elem ht harr (i := 7) (by decide) (hgf (.eq (.elem (.static "ClerestoryPlan" "FIRST_LIMITS" "[I") (.int 7)) (.int 3)) (by decide +kernel))
      | 8, _ => exact zk_elem ht harr (i := 8) (by decide) (hgf (.eq (.elem (.static "ClerestoryPlan" "FIRST_LIMITS" "[I") (.int 8)) (.int 60)) (by decide +kernel))
      | 9, _ => exact zk_elem ht harr (i := 9) (by decide) (hgf (.eq (.elem (.static "ClerestoryPlan" "FIRST_LIMITS" "[I") (.int 9)) (.int 0)) (by decide +kernel))
    refine ⟨t, cell, va_Zref (hts (.laysStatic "ClerestoryPlan" "FIRST_LIMITS" "[I") (zk_tb 435 (by decide +kernel))) (hts (.initialized "ClerestoryPlan") (zk_tb 2 (by decide +kernel))) ht (fun a ha => Nat.not_le.mpr ha), hcell, Nat.not_le.mpr (Array.getElem?_eq_some_iff.mp hcell).1, q6, ?_, (fun k e => by rw [e] at hv2; cases hv2), hv1, hsc⟩
    apply Array.ext_getElem?
    intro i
    by_cases hi : i < 10
    · rw [el i hi]
      show _ = (arrV (cT 0) 10 (fun j => .int (zk_FL j))).slots[i]?
      rw [arrV_read _ _ hi]
    · rw [Array.getElem?_eq_none (by omega), Array.getElem?_eq_none (by rw [show (vp_cell (cT 0) (10, .inl zk_FL)).slots.size = 10 from arrV_size _ _ _]; omega)]

