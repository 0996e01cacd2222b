/-! lookups, and what the tables say of fields, classes and constants -/
def zk_lka {α : Type} : List (Nat × α) → Nat → Option α
  | [], _ => none
  | (i, q) :: l, a => match Nat.beq i a with
    | true => some q
    | false => zk_lka l a
theorem zk_lka_mem {α : Type} : ∀ {l : List (Nat × α)} {a : Nat} {q : α}, zk_lka l a = some q → (a, q) ∈ l
  | [], _, _, h => by cases h
  | (i, r) :: l, a, q, h => by
    unfold zk_lka at h
    split at h
    · rename_i e
      have := Nat.eq_of_beq_eq_true e
      subst this
      cases h
      exact List.mem_cons_self
    · exact List.mem_cons_of_mem _ (zk_lka_mem h)
def zk_in : List Nat → Nat → Bool
  | [], _ => false
  | i :: l, a => match Nat.beq i a with
    | true => true
    | false => zk_in l a
theorem zk_in_mem : ∀ {l : List Nat} {a : Nat}, zk_in l a = true → a ∈ l
  | [], _, h => by cases h
  | i :: l, a, h => by
    unfold zk_in at h
    split at h
    · rename_i e
      have := Nat.eq_of_beq_eq_true e
      subst this
      exact List.mem_cons_self
    · exact List.mem_cons_of_mem _ (zk_in_mem h)
/-- code in pieces: each with the pc behind it -/
def zk_lkc : List (Nat × List (Nat × Instr)) → Nat → Option Instr
  | [], _ => none
  | (b, c) :: l, a => match Nat.blt a b with
    | true => zk_lka c a
    | false => zk_lkc l a
theorem zk_lkc_mem : ∀ {l : List (Nat × List (Nat × Instr))} {a : Nat} {i : Instr}, zk_lkc l a = some i → ∃ q ∈ l, (a, i) ∈ q.2
  | [], _, _, h => by cases h
  | (b, c) :: l, a, i, h => by
    unfold zk_lkc at h
    split at h
    · exact ⟨_, List.mem_cons_self, zk_lka_mem h⟩
    · obtain ⟨q, h1, h2⟩ := zk_lkc_mem h
      exact ⟨q, List.mem_cons_of_mem _ h1, h2⟩
def zk_okc (cc : ByteArray) (l : List (Nat × List (Nat × Instr))) : Bool := l.all (fun q => q.2.all (fun r => match decode cc r.1 with
  | .ok (i, len) => decide (i = r.2) && (zk_lenof i == 0 || len == zk_lenof i)
  | _ => false))
theorem zk_okc_spec {cc : ByteArray} {l : List (Nat × List (Nat × Instr))} (h : zk_okc cc l = true) (pc : Nat) (i : Instr) (hi : zk_lkc l pc = some i) : ∃ len, decode cc pc = .ok (i, len) ∧ (zk_lenof i = 0 ∨ len = zk_lenof i) := by
  obtain ⟨q, h1, h2⟩ := zk_lkc_mem hi
  have h3 := List.all_eq_true.mp (List.all_eq_true.mp h q h1) (pc, i) h2
  dsimp only at h3
  split at h3
  · rename_i i2 len e
    simp only [Bool.and_eq_true, decide_eq_true_eq, Bool.or_eq_true, beq_iff_eq] at h3
    obtain ⟨rfl, h4⟩ := h3
    exact ⟨len, e, h4⟩
  · cases h3
abbrev zk_Tb : Type := (Nat → Option (List Nat × Nat)) × (Nat → Option (List Nat × Nat × Nat)) × (Nat → Option Nat) × (Nat → Option Nat) × (Nat → Option Value)
def zk_TB (own : String) (isI : Prop) (tb : zk_Tb) : Prop :=
  (∀ i cs k, tb.1 i = some (cs, k) → ∀ ci ∈ cs, zk_FO own i ci k) ∧
  (∀ i cs k tag, tb.2.1 i = some (cs, k, tag) → ∀ ci ∈ cs, zk_FP own isI i ci k tag) ∧
  (∀ i ci, tb.2.2.1 i = some ci → zk_NO own i ci) ∧
  (∀ i k, tb.2.2.2.1 i = some k → zk_AN own i k) ∧
  (∀ i v, tb.2.2.2.2 i = some v → (∀ x, v = .int x → Cond.constant own i x ∈ zk_WS) ∧ (∀ x, v = .long x → Cond.constantLong own i x ∈ zk_WS))
theorem zk_MO_of {own : String} {cc : ByteArray} {isI : Prop} {M : zk_M} {l : List (Nat × List (Nat × Instr))} (h1 : zk_okc cc l = true) (h2 : M.1 = zk_lkc l) (h3 : zk_TB own isI M.2.2.1) : zk_MO own cc isI M :=
  ⟨fun pc i hi => zk_okc_spec h1 pc i (by rw [← h2]; exact hi), h3.1, h3.2.1, h3.2.2.1, h3.2.2.2.1, h3.2.2.2.2⟩
theorem zk_FO_FP {own : String} {isI : Prop} {i ci k tag : Nat} {Cn : String} {T : u_T} {N : Nat} (h : zk_FO own i ci k) (hc : vwCl[ci]? = some (Cn, T, N)) (hf : (T k).2.2.2 = false ∨ ((T k).2.2.2 = true ∧ isI ∧ (T k).1 = own)) (hty : ∀ j, j < N → parseFieldDescriptor (T j).2.2.1 = some (zk_ty ci j)) (hnm : ∀ a, a < N → ∀ b, b < N → a ≠ b → (T a).2.1 ≠ (T b).2.1) (ht : zk_tag (zk_ty ci k) tag = true) : zk_FP own isI i ci k tag := by
  obtain ⟨C2, T2, N2, ref, h1, h2, h3, h4, h5⟩ := h
  cases hc.symm.trans h1
  exact ⟨Cn, T, N, ref, hc, h2, h3, h4, h5, hf, hty, hnm, ht⟩
theorem zk_k1 {own : String} {i : Nat} {x : Int32} (h : Cond.constant own i x ∈ zk_WS) : (∀ y, Value.int x = .int y → Cond.constant own i y ∈ zk_WS) ∧ (∀ y, Value.int x = .long y → Cond.constantLong own i y ∈ zk_WS) := ⟨fun y e => (by cases e; exact h), fun y e => (by cases e)⟩
theorem zk_k2 {own : String} {i : Nat} {x : Int64} (h : Cond.constantLong own i x ∈ zk_WS) : (∀ y, Value.long x = .int y → Cond.constant own i y ∈ zk_WS) ∧ (∀ y, Value.long x = .long y → Cond.constantLong own i y ∈ zk_WS) := ⟨fun y e => (by cases e), fun y e => (by cases e; exact h)⟩
theorem iw_X0 : ∀ w ∈ u_ws RX0 TX0 2, w ∈ zk_WS := by decide +kernel
theorem iw_X1 : ∀ w ∈ u_ws RX1 TX1 8, w ∈ zk_WS := by decide +kernel
theorem iw_X3 : ∀ w ∈ u_ws RX3 TX3 4, w ∈ zk_WS := by decide +kernel
theorem iw_X4 : ∀ w ∈ u_ws RX4 TX4 5, w ∈ zk_WS := by decide +kernel
theorem iw_X5 : ∀ w ∈ u_ws RX5 TX5 9, w ∈ zk_WS := by decide +kernel
theorem iw_X6 : ∀ w ∈ u_ws RX6 TX6 8, w ∈ zk_WS := by decide +kernel
theorem iw_X7 : ∀ w ∈ u_ws RX7 TX7 7, w ∈ zk_WS := by decide +kernel
theorem iw_X8 : ∀ w ∈ u_ws RX8 TX8 7, w ∈ zk_WS := by decide +kernel
theorem iw_X10 : ∀ w ∈ u_ws RX10 TX10 5, w ∈ zk_WS := by decide +kernel
theorem iw_X11 : ∀ w ∈ u_ws RX11 TX11 12, w ∈ zk_WS := by decide +kernel
theorem fo_X0_9_0 : zk_FO RX0 9 0 0 := ⟨RX0, TX0, 2, "ClerestoryPlan$Crowd", rfl, by decide, iw_X0, zk_wi 526 (by decide +kernel) rfl, Or.inl rfl⟩
theorem fpi_X0_9_0 {isI : Prop} (h : isI) : zk_FP RX0 isI 9 0 0 2 := zk_FO_FP fo_X0_9_0 (Cn := RX0) (T := TX0) (N := 2) rfl (Or.inr ⟨rfl, h, rfl⟩) tyX0_ok nmX0 rfl
theorem fo_X0_15_0 : zk_FO RX0 15 0 1 := ⟨RX0, TX0, 2, "ClerestoryPlan$Crowd", rfl, by decide, iw_X0, zk_wi 528 (by decide +kernel) rfl, Or.inl rfl⟩
theorem fpi_X0_15_0 {isI : Prop} (h : isI) : zk_FP RX0 isI 15 0 1 2 := zk_FO_FP fo_X0_15_0 (Cn := RX0) (T := TX0) (N := 2) rfl (Or.inr ⟨rfl, h, rfl⟩) tyX0_ok nmX0 rfl
theorem fo_X0_18_4 : zk_FO RX0 18 4 0 := ⟨RX5, TX5, 9, "ClerestoryPlan$Plan", rfl, by decide, iw_X5, zk_wi 444 (by decide +kernel) rfl, Or.inl rfl⟩
theorem fo_X0_24_5 : zk_FO RX0 24 5 7 := ⟨RX6, TX6, 8, "ClerestoryPlan$Room", rfl, by decide, iw_X6, zk_wi 696 (by decide +kernel) rfl, Or.inl rfl⟩
theorem fo_X0_43_7 : zk_FO RX0 43 7 6 := ⟨RX8, TX8, 7, "ClerestoryPlan$Ways", rfl, by decide, iw_X8, zk_wi 502 (by decide +kernel) rfl, Or.inl rfl⟩
theorem fo_X0_52_1 : zk_FO RX0 52 1 5 := ⟨RX1, TX1, 8, "ClerestoryPlan$Exit", rfl, by decide, iw_X1, zk_wi 861 (by decide +kernel) rfl, Or.inl rfl⟩
theorem fo_X0_52_6 : zk_FO RX0 52 6 5 := ⟨RX7, TX7, 7, "ClerestoryPlan$Exit", rfl, by decide, iw_X7, zk_wi 861 (by decide +kernel) rfl, Or.inl rfl⟩
theorem fo_X0_67_5 : zk_FO RX0 67 5 0 := ⟨RX6, TX6, 8, "ClerestoryPlan$Room", rfl, by decide, iw_X6, zk_wi 675 (by decide +kernel) rfl, Or.inl rfl⟩
theorem fo_X0_70_7 : zk_FO RX0 70 7 3 := ⟨RX8, TX8, 7, "ClerestoryPlan$Ways", rfl, by decide, iw_X8, zk_wi 494 (by decide +kernel) rfl, Or.inl rfl⟩
def gfl_X0 : List (Nat × (List Nat × Nat)) := [(9, ([0], 0)), (15, ([0], 1)), (18, ([4], 0)), (24, ([5], 7)), (43, ([7], 6)), (52, ([1, 6], 5)), (67, ([5], 0)), (70, ([7], 3))]
theorem gfo_X0 : ∀ q ∈ gfl_X0, ∀ ci ∈ q.2.1, zk_FO RX0 q.1 ci q.2.2 := List.forall_mem_cons.mpr ⟨List.forall_mem_cons.mpr ⟨fo_X0_9_0, fun _ h => absurd h List.not_mem_nil⟩, List.forall_mem_cons.mpr ⟨List.forall_mem_cons.mpr ⟨fo_X0_15_0, fun _ h => absurd h List.not_mem_nil⟩, List.forall_mem_cons.mpr ⟨List.forall_mem_cons.mpr ⟨fo_X0_18_4, fun _ h => absurd h List.not_mem_nil⟩, List.forall_mem_cons.mpr ⟨List.forall_mem_cons.mpr ⟨fo_X0_24_5, fun _ h => absurd h List.not_mem_nil⟩, List.forall_mem_cons.mpr ⟨List.forall_mem_cons.mpr ⟨fo_X0_43_7, fun _ h => absurd h List.not_mem_nil⟩, List.forall_mem_cons.mpr ⟨List.forall_mem_cons.mpr ⟨fo_X0_52_1, List.forall_mem_cons.mpr ⟨fo_X0_52_6, fun _ h => absurd h List.not_mem_nil⟩⟩, List.forall_mem_cons.mpr ⟨List.forall_mem_cons.mpr ⟨fo_X0_67_5, fun _ h => absurd h List.not_mem_nil⟩, List.forall_mem_cons.mpr ⟨List.forall_mem_cons.mpr ⟨fo_X0_70_7, fun _ h => absurd h List.not_mem_nil⟩, fun _ h => absurd h List.not_mem_nil⟩⟩⟩⟩⟩⟩⟩⟩
def pfl_X0 : List (Nat × (List Nat × Nat × Nat)) := []
theorem pfo_X0 {isI : Prop} : ∀ q ∈ pfl_X0, ∀ ci ∈ q.2.1, zk_FP RX0 isI q.1 ci q.2.2.1 q.2.2.2 := fun _ h => absurd h List.not_mem_nil
def pfil_X0 : List (Nat × (List Nat × Nat × Nat)) := [(9, ([0], 0, 2)), (15, ([0], 1, 2))]
theorem pfio_X0 {isI : Prop} (h : isI) : ∀ q ∈ pfil_X0, ∀ ci ∈ q.2.1, zk_FP RX0 isI q.1 ci q.2.2.1 q.2.2.2 := List.forall_mem_cons.mpr ⟨List.forall_mem_cons.mpr ⟨fpi_X0_9_0 h, fun _ h => absurd h List.not_mem_nil⟩, List.forall_mem_cons.mpr ⟨List.forall_mem_cons.mpr ⟨fpi_X0_15_0 h, fun _ h => absurd h List.not_mem_nil⟩, fun _ h => absurd h List.not_mem_nil⟩⟩
def nwl_X0 : List (Nat × Nat) := []
theorem nwo_X0 : ∀ q ∈ nwl_X0, zk_NO RX0 q.1 q.2 := fun _ h => absurd h List.not_mem_nil
def anl_X0 : List (Nat × Nat) := []
theorem ano_X0 : ∀ q ∈ anl_X0, zk_AN RX0 q.1 q.2 := fun _ h => absurd h List.not_mem_nil
def kcl_X0 : List (Nat × Value) := [(42, .int (1000000))]
theorem kco_X0 : ∀ q ∈ kcl_X0, (∀ x, q.2 = .int x → Cond.constant RX0 q.1 x ∈ zk_WS) ∧ (∀ x, q.2 = .long x → Cond.constantLong RX0 q.1 x ∈ zk_WS) := List.forall_mem_cons.mpr ⟨zk_k1 (zk_wi 265 (by decide +kernel) rfl), fun _ h => absurd h List.not_mem_nil⟩
def tb_X0 : zk_Tb := (zk_lka gfl_X0, zk_lka pfl_X0, zk_lka nwl_X0, zk_lka anl_X0, zk_lka kcl_X0)
theorem tbo_X0 {isI : Prop} : zk_TB RX0 isI tb_X0 := ⟨fun i cs k h => gfo_X0 _ (zk_lka_mem h), fun i cs k tag h2 => pfo_X0 _ (zk_lka_mem h2), fun i ci h => nwo_X0 _ (zk_lka_mem h), fun i k h => ano_X0 _ (zk_lka_mem h), fun i v h => kco_X0 _ (zk_lka_mem h)⟩
def tbi_X0 : zk_Tb := (zk_lka gfl_X0, zk_lka pfil_X0, zk_lka nwl_X0, zk_lka anl_X0, zk_lka kcl_X0)
theorem tbio_X0 {isI : Prop} (h : isI) : zk_TB RX0 isI tbi_X0 := ⟨fun i cs k h => gfo_X0 _ (zk_lka_mem h), fun i cs k tag h2 => pfio_X0 h _ (zk_lka_mem h2), fun i ci h => nwo_X0 _ (zk_lka_mem h), fun i k h => ano_X0 _ (zk_lka_mem h), fun i v h => kco_X0 _ (zk_lka_mem h)⟩
theorem fo_X1_12_3 : zk_FO RX1 12 3 4 := ⟨RX4, TX4, 5, "ClerestoryPlan$Piece", rfl, by decide, iw_X4, zk_wi 778 (by decide +kernel) rfl, Or.inl rfl⟩
theorem fo_X1_22_1 : zk_FO RX1 22 1 7 := ⟨RX1, TX1, 8, "ClerestoryPlan$Door", rfl, by decide, iw_X1, zk_wi 847 (by decide +kernel) rfl, Or.inl rfl⟩
theorem fpi_X1_22_1 {isI : Prop} (h : isI) : zk_FP RX1 isI 22 1 7 2 := zk_FO_FP fo_X1_22_1 (Cn := RX1) (T := TX1) (N := 8) rfl (Or.inr ⟨rfl, h, rfl⟩) tyX1_ok nmX1 rfl
def gfl_X1 : List (Nat × (List Nat × Nat)) := [(12, ([3], 4))]
theorem gfo_X1 : ∀ q ∈ gfl_X1, ∀ ci ∈ q.2.1, zk_FO RX1 q.1 ci q.2.2 := List.forall_mem_cons.mpr ⟨List.forall_mem_cons.mpr ⟨fo_X1_12_3, fun _ h => absurd h List.not_mem_nil⟩, fun _ h => absurd h List.not_mem_nil⟩
def pfl_X1 : List (Nat × (List Nat × Nat × Nat)) := []
theorem pfo_X1 {isI : Prop} : ∀ q ∈ pfl_X1, ∀ ci ∈ q.2.1, zk_FP RX1 isI q.1 ci q.2.2.1 q.2.2.2 := fun _ h => absurd h List.not_mem_nil
def pfil_X1 : List (Nat × (List Nat × Nat × Nat)) := [(22, ([1], 7, 2))]
theorem pfio_X1 {isI : Prop} (h : isI) : ∀ q ∈ pfil_X1, ∀ ci ∈ q.2.1, zk_FP RX1 isI q.1 ci q.2.2.1 q.2.2.2 := List.forall_mem_cons.mpr ⟨List.forall_mem_cons.mpr ⟨fpi_X1_22_1 h, fun _ h => absurd h List.not_mem_nil⟩, fun _ h => absurd h List.not_mem_nil⟩
def nwl_X1 : List (Nat × Nat) := []
theorem nwo_X1 : ∀ q ∈ nwl_X1, zk_NO RX1 q.1 q.2 := fun _ h => absurd h List.not_mem_nil
def anl_X1 : List (Nat × Nat) := []
theorem ano_X1 : ∀ q ∈ anl_X1, zk_AN RX1 q.1 q.2 := fun _ h => absurd h List.not_mem_nil
def kcl_X1 : List (Nat × Value) := []
theorem kco_X1 : ∀ q ∈ kcl_X1, (∀ x, q.2 = .int x → Cond.constant RX1 q.1 x ∈ zk_WS) ∧ (∀ x, q.2 = .long x → Cond.constantLong RX1 q.1 x ∈ zk_WS) := fun _ h => absurd h List.not_mem_nil
def tb_X1 : zk_Tb := (zk_lka gfl_X1, zk_lka pfl_X1, zk_lka nwl_X1, zk_lka anl_X1, zk_lka kcl_X1)
theorem tbo_X1 {isI : Prop} : zk_TB RX1 isI tb_X1 := ⟨fun i cs k h => gfo_X1 _ (zk_lka_mem h), fun i cs k tag h2 => pfo_X1 _ (zk_lka_mem h2), fun i ci h => nwo_X1 _ (zk_lka_mem h), fun i k h => ano_X1 _ (zk_lka_mem h), fun i v h => kco_X1 _ (zk_lka_mem h)⟩
def tbi_X1 : zk_Tb := (zk_lka gfl_X1, zk_lka pfil_X1, zk_lka nwl_X1, zk_lka anl_X1, zk_lka kcl_X1)
theorem tbio_X1 {isI : Prop} (h : isI) : zk_TB RX1 isI tbi_X1 := ⟨fun i cs k h => gfo_X1 _ (zk_lka_mem h), fun i cs k tag h2 => pfio_X1 h _ (zk_lka_mem h2), fun i ci h => nwo_X1 _ (zk_lka_mem h), fun i k h => ano_X1 _ (zk_lka_mem h), fun i v h => kco_X1 _ (zk_lka_mem h)⟩
theorem fo_X2_7_1 : zk_FO RX2 7 1 0 := ⟨RX1, TX1, 8, "ClerestoryPlan$Exit", rfl, by decide, iw_X1, zk_wi 850 (by decide +kernel) rfl, Or.inl rfl⟩
theorem fpi_X2_7_1 {isI : Prop} (h : isI) : zk_FP RX2 isI 7 1 0 2 := zk_FO_FP fo_X2_7_1 (Cn := RX1) (T := TX1) (N := 8) rfl (Or.inr ⟨rfl, h, rfl⟩) tyX1_ok nmX1 rfl
theorem fo_X2_7_6 : zk_FO RX2 7 6 0 := ⟨RX7, TX7, 7, "ClerestoryPlan$Exit", rfl, by decide, iw_X7, zk_wi 850 (by decide +kernel) rfl, Or.inl rfl⟩
theorem fpi_X2_7_6 {isI : Prop} (h : isI) : zk_FP RX2 isI 7 6 0 2 := zk_FO_FP fo_X2_7_6 (Cn := RX7) (T := TX7) (N := 7) rfl (Or.inr ⟨rfl, h, rfl⟩) tyX7_ok nmX7 rfl
theorem fo_X2_13_1 : zk_FO RX2 13 1 1 := ⟨RX1, TX1, 8, "ClerestoryPlan$Exit", rfl, by decide, iw_X1, zk_wi 852 (by decide +kernel) rfl, Or.inl rfl⟩
theorem fpi_X2_13_1 {isI : Prop} (h : isI) : zk_FP RX2 isI 13 1 1 2 := zk_FO_FP fo_X2_13_1 (Cn := RX1) (T := TX1) (N := 8) rfl (Or.inr ⟨rfl, h, rfl⟩) tyX1_ok nmX1 rfl
theorem fo_X2_13_6 : zk_FO RX2 13 6 1 := ⟨RX7, TX7, 7, "ClerestoryPlan$Exit", rfl, by decide, iw_X7, zk_wi 852 (by decide +kernel) rfl, Or.inl rfl⟩
theorem fpi_X2_13_6 {isI : Prop} (h : isI) : zk_FP RX2 isI 13 6 1 2 := zk_FO_FP fo_X2_13_6 (Cn := RX7) (T := TX7) (N := 7) rfl (Or.inr ⟨rfl, h, rfl⟩) tyX7_ok nmX7 rfl
theorem fo_X2_16_1 : zk_FO RX2 16 1 2 := ⟨RX1, TX1, 8, "ClerestoryPlan$Exit", rfl, by decide, iw_X1, zk_wi 854 (by decide +kernel) rfl, Or.inl rfl⟩
theorem fpi_X2_16_1 {isI : Prop} (h : isI) : zk_FP RX2 isI 16 1 2 0 := zk_FO_FP fo_X2_16_1 (Cn := RX1) (T := TX1) (N := 8) rfl (Or.inr ⟨rfl, h, rfl⟩) tyX1_ok nmX1 rfl
theorem fo_X2_16_6 : zk_FO RX2 16 6 2 := ⟨RX7, TX7, 7, "ClerestoryPlan$Exit", rfl, by decide, iw_X7, zk_wi 854 (by decide +kernel) rfl, Or.inl rfl⟩
theorem fpi_X2_16_6 {isI : Prop} (h : isI) : zk_FP RX2 isI 16 6 2 0 := zk_FO_FP fo_X2_16_6 (Cn := RX7) (T := TX7) (N := 7) rfl (Or.inr ⟨rfl, h, rfl⟩) tyX7_ok nmX7 rfl
theorem fo_X2_20_1 : zk_FO RX2 20 1 3 := ⟨RX1, TX1, 8, "ClerestoryPlan$Exit", rfl, by decide, iw_X1, zk_wi 856 (by decide +kernel) rfl, Or.inl rfl⟩
theorem fpi_X2_20_1 {isI : Prop} (h : isI) : zk_FP RX2 isI 20 1 3 0 := zk_FO_FP fo_X2_20_1 (Cn := RX1) (T := TX1) (N := 8) rfl (Or.inr ⟨rfl, h, rfl⟩) tyX1_ok nmX1 rfl
theorem fo_X2_20_6 : zk_FO RX2 20 6 3 := ⟨RX7, TX7, 7, "ClerestoryPlan$Exit", rfl, by decide, iw_X7, zk_wi 856 (by decide +kernel) rfl, Or.inl rfl⟩
theorem fpi_X2_20_6 {isI : Prop} (h : isI) : zk_FP RX2 isI 20 6 3 0 := zk_FO_FP fo_X2_20_6 (Cn := RX7) (T := TX7) (N := 7) rfl (Or.inr ⟨rfl, h, rfl⟩) tyX7_ok nmX7 rfl
theorem fo_X2_23_1 : zk_FO RX2 23 1 4 := ⟨RX1, TX1, 8, "ClerestoryPlan$Exit", rfl, by decide, iw_X1, zk_wi 858 (by decide +kernel) rfl, Or.inl rfl⟩
theorem fpi_X2_23_1 {isI : Prop} (h : isI) : zk_FP RX2 isI 23 1 4 0 := zk_FO_FP fo_X2_23_1 (Cn := RX1) (T := TX1) (N := 8) rfl (Or.inr ⟨rfl, h, rfl⟩) tyX1_ok nmX1 rfl
theorem fo_X2_23_6 : zk_FO RX2 23 6 4 := ⟨RX7, TX7, 7, "ClerestoryPlan$Exit", rfl, by decide, iw_X7, zk_wi 858 (by decide +kernel) rfl, Or.inl rfl⟩
theorem fpi_X2_23_6 {isI : Prop} (h : isI) : zk_FP RX2 isI 23 6 4 0 := zk_FO_FP fo_X2_23_6 (Cn := RX7) (T := TX7) (N := 7) rfl (Or.inr ⟨rfl, h, rfl⟩) tyX7_ok nmX7 rfl
theorem fo_X2_26_1 : zk_FO RX2 26 1 5 := ⟨RX1, TX1, 8, "ClerestoryPlan$Exit", rfl, by decide, iw_X1, zk_wi 860 (by decide +kernel) rfl, Or.inl rfl⟩
theorem fpi_X2_26_1 {isI : Prop} (h : isI) : zk_FP RX2 isI 26 1 5 0 := zk_FO_FP fo_X2_26_1 (Cn := RX1) (T := TX1) (N := 8) rfl (Or.inl rfl) tyX1_ok nmX1 rfl
theorem fo_X2_26_6 : zk_FO RX2 26 6 5 := ⟨RX7, TX7, 7, "ClerestoryPlan$Exit", rfl, by decide, iw_X7, zk_wi 860 (by decide +kernel) rfl, Or.inl rfl⟩
theorem fpi_X2_26_6 {isI : Prop} (h : isI) : zk_FP RX2 isI 26 6 5 0 := zk_FO_FP fo_X2_26_6 (Cn := RX7) (T := TX7) (N := 7) rfl (Or.inl rfl) tyX7_ok nmX7 rfl
def gfl_X2 : List (Nat × (List Nat × Nat)) := [(7, ([1, 6], 0)), (13, ([1, 6], 1)), (16, ([1, 6], 2)), (20, ([1, 6], 3))]
theorem gfo_X2 : ∀ q ∈ gfl_X2, ∀ ci ∈ q.2.1, zk_FO RX2 q.1 ci q.2.2 := List.forall_mem_cons.mpr ⟨List.forall_mem_cons.mpr ⟨fo_X2_7_1, List.forall_mem_cons.mpr ⟨fo_X2_7_6, fun _ h => absurd h List.not_mem_nil⟩⟩, List.forall_mem_cons.mpr ⟨List.forall_mem_cons.mpr ⟨fo_X2_13_1, List.forall_mem_cons.mpr ⟨fo_X2_13_6, fun _ h => absurd h List.not_mem_nil⟩⟩, List.forall_mem_cons.mpr ⟨List.forall_mem_cons.mpr ⟨fo_X2_16_1, List.forall_mem_cons.mpr ⟨fo_X2_16_6, fun _ h => absurd h List.not_mem_nil⟩⟩, List.forall_mem_cons.mpr ⟨List.forall_mem_cons.mpr ⟨fo_X2_20_1, List.forall_mem_cons.mpr ⟨fo_X2_20_6, fun _ h => absurd h List.not_mem_nil⟩⟩, fun _ h => absurd h List.not_mem_nil⟩⟩⟩⟩
def pfl_X2 : List (Nat × (List Nat × Nat × Nat)) := []
theorem pfo_X2 {isI : Prop} : ∀ q ∈ pfl_X2, ∀ ci ∈ q.2.1, zk_FP RX2 isI q.1 ci q.2.2.1 q.2.2.2 := fun _ h => absurd h List.not_mem_nil
def pfil_X2 : List (Nat × (List Nat × Nat × Nat)) := [(7, ([1, 6], 0, 2)), (13, ([1, 6], 1, 2)), (16, ([1, 6], 2, 0)), (20, ([1, 6], 3, 0)), (23, ([1, 6], 4, 0)), (26, ([1, 6], 5, 0))]
theorem pfio_X2 {isI : Prop} (h : isI) : ∀ q ∈ pfil_X2, ∀ ci ∈ q.2.1, zk_FP RX2 isI q.1 ci q.2.2.1 q.2.2.2 := List.forall_mem_cons.mpr ⟨List.forall_mem_cons.mpr ⟨fpi_X2_7_1 h, List.forall_mem_cons.mpr ⟨fpi_X2_7_6 h, fun _ h => absurd h List.not_mem_nil⟩⟩, List.forall_mem_cons.mpr ⟨List.forall_mem_cons.mpr ⟨fpi_X2_13_1 h, List.forall_mem_cons.mpr ⟨fpi_X2_13_6 h, fun _ h => absurd h List.not_mem_nil⟩⟩, List.forall_mem_cons.mpr ⟨List.forall_mem_cons.mpr ⟨fpi_X2_16_1 h, List.forall_mem_cons.mpr ⟨fpi_X2_16_6 h, fun _ h => absurd h List.not_mem_nil⟩⟩, List.forall_mem_cons.mpr ⟨List.forall_mem_cons.mpr ⟨fpi_X2_20_1 h, List.forall_mem_cons.mpr ⟨fpi_X2_20_6 h, fun _ h => absurd h List.not_mem_nil⟩⟩, List.forall_mem_cons.mpr ⟨List.forall_mem_cons.mpr ⟨fpi_X2_23_1 h, List.forall_mem_cons.mpr ⟨fpi_X2_23_6 h, fun _ h => absurd h List.not_mem_nil⟩⟩, List.forall_mem_cons.mpr ⟨List.forall_mem_cons.mpr ⟨fpi_X2_26_1 h, List.forall_mem_cons.mpr ⟨fpi_X2_26_6 h, fun _ h => absurd h List.not_mem_nil⟩⟩, fun _ h => absurd h List.not_mem_nil⟩⟩⟩⟩⟩⟩
def nwl_X2 : List (Nat × Nat) := []
theorem nwo_X2 : ∀ q ∈ nwl_X2, zk_NO RX2 q.1 q.2 := fun _ h => absurd h List.not_mem_nil
def anl_X2 : List (Nat × Nat) := []
theorem ano_X2 : ∀ q ∈ anl_X2, zk_AN RX2 q.1 q.2 := fun _ h => absurd h List.not_mem_nil
def kcl_X2 : List (Nat × Value) := []
theorem kco_X2 : ∀ q ∈ kcl_X2, (∀ x, q.2 = .int x → Cond.constant RX2 q.1 x ∈ zk_WS) ∧ (∀ x, q.2 = .long x → Cond.constantLong RX2 q.1 x ∈ zk_WS) := fun _ h => absurd h List.not_mem_nil
def tb_X2 : zk_Tb := (zk_lka gfl_X2, zk_lka pfl_X2, zk_lka nwl_X2, zk_lka anl_X2, zk_lka kcl_X2)
theorem tbo_X2 {isI : Prop} : zk_TB RX2 isI tb_X2 := ⟨fun i cs k h => gfo_X2 _ (zk_lka_mem h), fun i cs k tag h2 => pfo_X2 _ (zk_lka_mem h2), fun i ci h => nwo_X2 _ (zk_lka_mem h), fun i k h => ano_X2 _ (zk_lka_mem h), fun i v h => kco_X2 _ (zk_lka_mem h)⟩
def tbi_X2 : zk_Tb := (zk_lka gfl_X2, zk_lka pfil_X2, zk_lka nwl_X2, zk_lka anl_X2, zk_lka kcl_X2)
theorem tbio_X2 {isI : Prop} (h : isI) : zk_TB RX2 isI tbi_X2 := ⟨fun i cs k h => gfo_X2 _ (zk_lka_mem h), fun i cs k tag h2 => pfio_X2 h _ (zk_lka_mem h2), fun i ci h => nwo_X2 _ (zk_lka_mem h), fun i k h => ano_X2 _ (zk_lka_mem h), fun i v h => kco_X2 _ (zk_lka_mem h)⟩
theorem fo_X3_9_2 : zk_FO RX3 9 2 0 := ⟨RX3, TX3, 4, "ClerestoryPlan$FaultList", rfl, by decide, iw_X3, zk_wi 540 (by decide +kernel) rfl, Or.inl rfl⟩
theorem fpi_X3_9_2 {isI : Prop} (h : isI) : zk_FP RX3 isI 9 2 0 2 := zk_FO_FP fo_X3_9_2 (Cn := RX3) (T := TX3) (N := 4) rfl (Or.inr ⟨rfl, h, rfl⟩) tyX3_ok nmX3 rfl
theorem fo_X3_15_2 : zk_FO RX3 15 2 1 := ⟨RX3, TX3, 4, "ClerestoryPlan$FaultList", rfl, by decide, iw_X3, zk_wi 542 (by decide +kernel) rfl, Or.inl rfl⟩
theorem fpi_X3_15_2 {isI : Prop} (h : isI) : zk_FP RX3 isI 15 2 1 2 := zk_FO_FP fo_X3_15_2 (Cn := RX3) (T := TX3) (N := 4) rfl (Or.inr ⟨rfl, h, rfl⟩) tyX3_ok nmX3 rfl
theorem fo_X3_18_2 : zk_FO RX3 18 2 2 := ⟨RX3, TX3, 4, "ClerestoryPlan$FaultList", rfl, by decide, iw_X3, zk_wi 544 (by decide +kernel) rfl, Or.inl rfl⟩
theorem fpi_X3_18_2 {isI : Prop} (h : isI) : zk_FP RX3 isI 18 2 2 2 := zk_FO_FP fo_X3_18_2 (Cn := RX3) (T := TX3) (N := 4) rfl (Or.inr ⟨rfl, h, rfl⟩) tyX3_ok nmX3 rfl
theorem fo_X3_29_7 : zk_FO RX3 29 7 2 := ⟨RX8, TX8, 7, "ClerestoryPlan$Ways", rfl, by decide, iw_X8, zk_wi 491 (by decide +kernel) rfl, Or.inl rfl⟩
theorem fo_X3_34_4 : zk_FO RX3 34 4 4 := ⟨RX5, TX5, 9, "ClerestoryPlan$Plan", rfl, by decide, iw_X5, zk_wi 455 (by decide +kernel) rfl, Or.inl rfl⟩
theorem fo_X3_43_2 : zk_FO RX3 43 2 3 := ⟨RX3, TX3, 4, "ClerestoryPlan$FaultList", rfl, by decide, iw_X3, zk_wi 546 (by decide +kernel) rfl, Or.inl rfl⟩
theorem fp_X3_43_2 {isI : Prop} : zk_FP RX3 isI 43 2 3 0 := zk_FO_FP fo_X3_43_2 (Cn := RX3) (T := TX3) (N := 4) rfl (Or.inl rfl) tyX3_ok nmX3 rfl
theorem fo_X3_47_4 : zk_FO RX3 47 4 1 := ⟨RX5, TX5, 9, "ClerestoryPlan$Plan", rfl, by decide, iw_X5, zk_wi 449 (by decide +kernel) rfl, Or.inl rfl⟩
theorem fo_X3_51_1 : zk_FO RX3 51 1 7 := ⟨RX1, TX1, 8, "ClerestoryPlan$Door", rfl, by decide, iw_X1, zk_wi 848 (by decide +kernel) rfl, Or.inl rfl⟩
theorem fo_X3_57_3 : zk_FO RX3 57 3 4 := ⟨RX4, TX4, 5, "ClerestoryPlan$Piece", rfl, by decide, iw_X4, zk_wi 780 (by decide +kernel) rfl, Or.inl rfl⟩
theorem fo_X3_62_4 : zk_FO RX3 62 4 0 := ⟨RX5, TX5, 9, "ClerestoryPlan$Plan", rfl, by decide, iw_X5, zk_wi 446 (by decide +kernel) rfl, Or.inl rfl⟩
theorem fo_X3_66_5 : zk_FO RX3 66 5 4 := ⟨RX6, TX6, 8, "ClerestoryPlan$Room", rfl, by decide, iw_X6, zk_wi 686 (by decide +kernel) rfl, Or.inl rfl⟩
theorem fo_X3_71_5 : zk_FO RX3 71 5 5 := ⟨RX6, TX6, 8, "ClerestoryPlan$Room", rfl, by decide, iw_X6, zk_wi 690 (by decide +kernel) rfl, Or.inl rfl⟩
theorem fo_X3_74_7 : zk_FO RX3 74 7 6 := ⟨RX8, TX8, 7, "ClerestoryPlan$Ways", rfl, by decide, iw_X8, zk_wi 503 (by decide +kernel) rfl, Or.inl rfl⟩
theorem fo_X3_77_5 : zk_FO RX3 77 5 7 := ⟨RX6, TX6, 8, "ClerestoryPlan$Room", rfl, by decide, iw_X6, zk_wi 698 (by decide +kernel) rfl, Or.inl rfl⟩
theorem fo_X3_80_7 : zk_FO RX3 80 7 5 := ⟨RX8, TX8, 7, "ClerestoryPlan$Ways", rfl, by decide, iw_X8, zk_wi 499 (by decide +kernel) rfl, Or.inl rfl⟩
theorem fo_X3_83_5 : zk_FO RX3 83 5 6 := ⟨RX6, TX6, 8, "ClerestoryPlan$Room", rfl, by decide, iw_X6, zk_wi 694 (by decide +kernel) rfl, Or.inl rfl⟩
def gfl_X3 : List (Nat × (List Nat × Nat)) := [(9, ([2], 0)), (15, ([2], 1)), (18, ([2], 2)), (29, ([7], 2)), (34, ([4], 4)), (43, ([2], 3)), (47, ([4], 1)), (51, ([1], 7)), (57, ([3], 4)), (62, ([4], 0)), (66, ([5], 4)), (71, ([5], 5)), (74, ([7], 6)), (77, ([5], 7)), (80, ([7], 5)), (83, ([5], 6))]
theorem gfo_X3 : ∀ q ∈ gfl_X3, ∀ ci ∈ q.2.1, zk_FO RX3 q.1 ci q.2.2 := List.forall_mem_cons.mpr ⟨List.forall_mem_cons.mpr ⟨fo_X3_9_2, fun _ h => absurd h List.not_mem_nil⟩, List.forall_mem_cons.mpr ⟨List.forall_mem_cons.mpr ⟨fo_X3_15_2, fun _ h => absurd h List.not_mem_nil⟩, List.forall_mem_cons.mpr ⟨List.forall_mem_cons.mpr ⟨fo_X3_18_2, fun _ h => absurd h List.not_mem_nil⟩, List.forall_mem_cons.mpr ⟨List.forall_mem_cons.mpr ⟨fo_X3_29_7, fun _ h => absurd h List.not_mem_nil⟩, List.forall_mem_cons.mpr ⟨List.forall_mem_cons.mpr ⟨fo_X3_34_4, fun _ h => absurd h List.not_mem_nil⟩, List.forall_mem_cons.mpr ⟨List.forall_mem_cons.mpr ⟨fo_X3_43_2, fun _ h => absurd h List.not_mem_nil⟩, List.forall_mem_cons.mpr ⟨List.forall_mem_cons.mpr ⟨fo_X3_47_4, fun _ h => absurd h List.not_mem_nil⟩, List.forall_mem_cons.mpr ⟨List.forall_mem_cons.mpr ⟨fo_X3_51_1, fun _ h => absurd h List.not_mem_nil⟩, List.forall_mem_cons.mpr ⟨List.forall_mem_cons.mpr ⟨fo_X3_57_3, fun _ h => absurd h List.not_mem_nil⟩, List.forall_mem_cons.mpr ⟨List.forall_mem_cons.mpr ⟨fo_X3_62_4, fun _ h => absurd h List.not_mem_nil⟩, List.forall_mem_cons.mpr ⟨List.forall_mem_cons.mpr ⟨fo_X3_66_5, fun _ h => absurd h List.not_mem_nil⟩, List.forall_mem_cons.mpr ⟨List.forall_mem_cons.mpr ⟨fo_X3_71_5, fun _ h => absurd h List.not_mem_nil⟩, List.forall_mem_cons.mpr ⟨List.forall_mem_cons.mpr ⟨fo_X3_74_7, fun _ h => absurd h List.not_mem_nil⟩, List.forall_mem_cons.mpr ⟨List.forall_mem_cons.mpr ⟨fo_X3_77_5, fun _ h => absurd h List.not_mem_nil⟩, List.forall_mem_cons.mpr ⟨List.forall_mem_cons.mpr ⟨fo_X3_80_7, fun _ h => absurd h List.not_mem_nil⟩, List.forall_mem_cons.mpr ⟨List.forall_mem_cons.mpr ⟨fo_X3_83_5, fun _ h => absurd h List.not_mem_nil⟩, fun _ h => absurd h List.not_mem_nil⟩⟩⟩⟩⟩⟩⟩⟩⟩⟩⟩⟩⟩⟩⟩⟩
def pfl_X3 : List (Nat × (List Nat × Nat × Nat)) := [(43, ([2], 3, 0))]
theorem pfo_X3 {isI : Prop} : ∀ q ∈ pfl_X3, ∀ ci ∈ q.2.1, zk_FP RX3 isI q.1 ci q.2.2.1 q.2.2.2 := List.forall_mem_cons.mpr ⟨List.forall_mem_cons.mpr ⟨fp_X3_43_2, fun _ h => absurd h List.not_mem_nil⟩, fun _ h => absurd h List.not_mem_nil⟩
def pfil_X3 : List (Nat × (List Nat × Nat × Nat)) := [(9, ([2], 0, 2)), (15, ([2], 1, 2)), (18, ([2], 2, 2))]
theorem pfio_X3 {isI : Prop} (h : isI) : ∀ q ∈ pfil_X3, ∀ ci ∈ q.2.1, zk_FP RX3 isI q.1 ci q.2.2.1 q.2.2.2 := List.forall_mem_cons.mpr ⟨List.forall_mem_cons.mpr ⟨fpi_X3_9_2 h, fun _ h => absurd h List.not_mem_nil⟩, List.forall_mem_cons.mpr ⟨List.forall_mem_cons.mpr ⟨fpi_X3_15_2 h, fun _ h => absurd h List.not_mem_nil⟩, List.forall_mem_cons.mpr ⟨List.forall_mem_cons.mpr ⟨fpi_X3_18_2 h, fun _ h => absurd h List.not_mem_nil⟩, fun _ h => absurd h List.not_mem_nil⟩⟩⟩
def nwl_X3 : List (Nat × Nat) := []
theorem nwo_X3 : ∀ q ∈ nwl_X3, zk_NO RX3 q.1 q.2 := fun _ h => absurd h List.not_mem_nil
def anl_X3 : List (Nat × Nat) := []
theorem ano_X3 : ∀ q ∈ anl_X3, zk_AN RX3 q.1 q.2 := fun _ h => absurd h List.not_mem_nil
def kcl_X3 : List (Nat × Value) := []
theorem kco_X3 : ∀ q ∈ kcl_X3, (∀ x, q.2 = .int x → Cond.constant RX3 q.1 x ∈ zk_WS) ∧ (∀ x, q.2 = .long x → Cond.constantLong RX3 q.1 x ∈ zk_WS) := fun _ h => absurd h List.not_mem_nil
def tb_X3 : zk_Tb := (zk_lka gfl_X3, zk_lka pfl_X3, zk_lka nwl_X3, zk_lka anl_X3, zk_lka kcl_X3)
theorem tbo_X3 {isI : Prop} : zk_TB RX3 isI tb_X3 := ⟨fun i cs k h => gfo_X3 _ (zk_lka_mem h), fun i cs k tag h2 => pfo_X3 _ (zk_lka_mem h2), fun i ci h => nwo_X3 _ (zk_lka_mem h), fun i k h => ano_X3 _ (zk_lka_mem h), fun i v h => kco_X3 _ (zk_lka_mem h)⟩
def tbi_X3 : zk_Tb := (zk_lka gfl_X3, zk_lka pfil_X3, zk_lka nwl_X3, zk_lka anl_X3, zk_lka kcl_X3)
theorem tbio_X3 {isI : Prop} (h : isI) : zk_TB RX3 isI tbi_X3 := ⟨fun i cs k h => gfo_X3 _ (zk_lka_mem h), fun i cs k tag h2 => pfio_X3 h _ (zk_lka_mem h2), fun i ci h => nwo_X3 _ (zk_lka_mem h), fun i k h => ano_X3 _ (zk_lka_mem h), fun i v h => kco_X3 _ (zk_lka_mem h)⟩
theorem fo_X4_7_3 : zk_FO RX4 7 3 0 := ⟨RX4, TX4, 5, "ClerestoryPlan$Piece", rfl, by decide, iw_X4, zk_wi 774 (by decide +kernel) rfl, Or.inl rfl⟩
theorem fpi_X4_7_3 {isI : Prop} (h : isI) : zk_FP RX4 isI 7 3 0 0 := zk_FO_FP fo_X4_7_3 (Cn := RX4) (T := TX4) (N := 5) rfl (Or.inr ⟨rfl, h, rfl⟩) tyX4_ok nmX4 rfl
theorem fo_X4_13_3 : zk_FO RX4 13 3 1 := ⟨RX4, TX4, 5, "ClerestoryPlan$Piece", rfl, by decide, iw_X4, zk_wi 775 (by decide +kernel) rfl, Or.inl rfl⟩
theorem fpi_X4_13_3 {isI : Prop} (h : isI) : zk_FP RX4 isI 13 3 1 1 := zk_FO_FP fo_X4_13_3 (Cn := RX4) (T := TX4) (N := 5) rfl (Or.inr ⟨rfl, h, rfl⟩) tyX4_ok nmX4 rfl
theorem fo_X4_17_3 : zk_FO RX4 17 3 2 := ⟨RX4, TX4, 5, "ClerestoryPlan$Piece", rfl, by decide, iw_X4, zk_wi 776 (by decide +kernel) rfl, Or.inl rfl⟩
theorem fpi_X4_17_3 {isI : Prop} (h : isI) : zk_FP RX4 isI 17 3 2 0 := zk_FO_FP fo_X4_17_3 (Cn := RX4) (T := TX4) (N := 5) rfl (Or.inr ⟨rfl, h, rfl⟩) tyX4_ok nmX4 rfl
theorem fo_X4_20_3 : zk_FO RX4 20 3 3 := ⟨RX4, TX4, 5, "ClerestoryPlan$Piece", rfl, by decide, iw_X4, zk_wi 777 (by decide +kernel) rfl, Or.inl rfl⟩
theorem fpi_X4_20_3 {isI : Prop} (h : isI) : zk_FP RX4 isI 20 3 3 0 := zk_FO_FP fo_X4_20_3 (Cn := RX4) (T := TX4) (N := 5) rfl (Or.inr ⟨rfl, h, rfl⟩) tyX4_ok nmX4 rfl
theorem fo_X4_23_3 : zk_FO RX4 23 3 4 := ⟨RX4, TX4, 5, "ClerestoryPlan$Piece", rfl, by decide, iw_X4, zk_wi 779 (by decide +kernel) rfl, Or.inl rfl⟩
theorem fpi_X4_23_3 {isI : Prop} (h : isI) : zk_FP RX4 isI 23 3 4 0 := zk_FO_FP fo_X4_23_3 (Cn := RX4) (T := TX4) (N := 5) rfl (Or.inr ⟨rfl, h, rfl⟩) tyX4_ok nmX4 rfl
theorem fo_X4_26_5 : zk_FO RX4 26 5 1 := ⟨RX6, TX6, 8, "ClerestoryPlan$Room", rfl, by decide, iw_X6, zk_wi 678 (by decide +kernel) rfl, Or.inl rfl⟩
def gfl_X4 : List (Nat × (List Nat × Nat)) := [(7, ([3], 0)), (13, ([3], 1)), (17, ([3], 2)), (20, ([3], 3)), (23, ([3], 4)), (26, ([5], 1))]
theorem gfo_X4 : ∀ q ∈ gfl_X4, ∀ ci ∈ q.2.1, zk_FO RX4 q.1 ci q.2.2 := List.forall_mem_cons.mpr ⟨List.forall_mem_cons.mpr ⟨fo_X4_7_3, fun _ h => absurd h List.not_mem_nil⟩, List.forall_mem_cons.mpr ⟨List.forall_mem_cons.mpr ⟨fo_X4_13_3, fun _ h => absurd h List.not_mem_nil⟩, List.forall_mem_cons.mpr ⟨List.forall_mem_cons.mpr ⟨fo_X4_17_3, fun _ h => absurd h List.not_mem_nil⟩, List.forall_mem_cons.mpr ⟨List.forall_mem_cons.mpr ⟨fo_X4_20_3, fun _ h => absurd h List.not_mem_nil⟩, List.forall_mem_cons.mpr ⟨List.forall_mem_cons.mpr ⟨fo_X4_23_3, fun _ h => absurd h List.not_mem_nil⟩, List.forall_mem_cons.mpr ⟨List.forall_mem_cons.mpr ⟨fo_X4_26_5, fun _ h => absurd h List.not_mem_nil⟩, fun _ h => absurd h List.not_mem_nil⟩⟩⟩⟩⟩⟩
def pfl_X4 : List (Nat × (List Nat × Nat × Nat)) := []
theorem pfo_X4 {isI : Prop} : ∀ q ∈ pfl_X4, ∀ ci ∈ q.2.1, zk_FP RX4 isI q.1 ci q.2.2.1 q.2.2.2 := fun _ h => absurd h List.not_mem_nil
def pfil_X4 : List (Nat × (List Nat × Nat × Nat)) := [(7, ([3], 0, 0)), (13, ([3], 1, 1)), (17, ([3], 2, 0)), (20, ([3], 3, 0)), (23, ([3], 4, 0))]
theorem pfio_X4 {isI : Prop} (h : isI) : ∀ q ∈ pfil_X4, ∀ ci ∈ q.2.1, zk_FP RX4 isI q.1 ci q.2.2.1 q.2.2.2 := List.forall_mem_cons.mpr ⟨List.forall_mem_cons.mpr ⟨fpi_X4_7_3 h, fun _ h => absurd h List.not_mem_nil⟩, List.forall_mem_cons.mpr ⟨List.forall_mem_cons.mpr ⟨fpi_X4_13_3 h, fun _ h => absurd h List.not_mem_nil⟩, List.forall_mem_cons.mpr ⟨List.forall_mem_cons.mpr ⟨fpi_X4_17_3 h, fun _ h => absurd h List.not_mem_nil⟩, List.forall_mem_cons.mpr ⟨List.forall_mem_cons.mpr ⟨fpi_X4_20_3 h, fun _ h => absurd h List.not_mem_nil⟩, List.forall_mem_cons.mpr ⟨List.forall_mem_cons.mpr ⟨fpi_X4_23_3 h, fun _ h => absurd h List.not_mem_nil⟩, fun _ h => absurd h List.not_mem_nil⟩⟩⟩⟩⟩
def nwl_X4 : List (Nat × Nat) := []
theorem nwo_X4 : ∀ q ∈ nwl_X4, zk_NO RX4 q.1 q.2 := fun _ h => absurd h List.not_mem_nil
def anl_X4 : List (Nat × Nat) := []
theorem ano_X4 : ∀ q ∈ anl_X4, zk_AN RX4 q.1 q.2 := fun _ h => absurd h List.not_mem_nil
def kcl_X4 : List (Nat × Value) := []
theorem kco_X4 : ∀ q ∈ kcl_X4, (∀ x, q.2 = .int x → Cond.constant RX4 q.1 x ∈ zk_WS) ∧ (∀ x, q.2 = .long x → Cond.constantLong RX4 q.1 x ∈ zk_WS) := fun _ h => absurd h List.not_mem_nil
def tb_X4 : zk_Tb := (zk_lka gfl_X4, zk_lka pfl_X4, zk_lka nwl_X4, zk_lka anl_X4, zk_lka kcl_X4)
theorem tbo_X4 {isI : Prop} : zk_TB RX4 isI tb_X4 := ⟨fun i cs k h => gfo_X4 _ (zk_lka_mem h), fun i cs k tag h2 => pfo_X4 _ (zk_lka_mem h2), fun i ci h => nwo_X4 _ (zk_lka_mem h), fun i k h => ano_X4 _ (zk_lka_mem h), fun i v h => kco_X4 _ (zk_lka_mem h)⟩
def tbi_X4 : zk_Tb := (zk_lka gfl_X4, zk_lka pfil_X4, zk_lka nwl_X4, zk_lka anl_X4, zk_lka kcl_X4)
theorem tbio_X4 {isI : Prop} (h : isI) : zk_TB RX4 isI tbi_X4 := ⟨fun i cs k h => gfo_X4 _ (zk_lka_mem h), fun i cs k tag h2 => pfio_X4 h _ (zk_lka_mem h2), fun i ci h => nwo_X4 _ (zk_lka_mem h), fun i k h => ano_X4 _ (zk_lka_mem h), fun i v h => kco_X4 _ (zk_lka_mem h)⟩
theorem fo_X5_11_4 : zk_FO RX5 11 4 0 := ⟨RX5, TX5, 9, "ClerestoryPlan$Plan", rfl, by decide, iw_X5, zk_wi 443 (by decide +kernel) rfl, Or.inl rfl⟩
theorem fpi_X5_11_4 {isI : Prop} (h : isI) : zk_FP RX5 isI 11 4 0 2 := zk_FO_FP fo_X5_11_4 (Cn := RX5) (T := TX5) (N := 9) rfl (Or.inr ⟨rfl, h, rfl⟩) tyX5_ok nmX5 rfl
theorem fo_X5_19_4 : zk_FO RX5 19 4 1 := ⟨RX5, TX5, 9, "ClerestoryPlan$Plan", rfl, by decide, iw_X5, zk_wi 448 (by decide +kernel) rfl, Or.inl rfl⟩
theorem fpi_X5_19_4 {isI : Prop} (h : isI) : zk_FP RX5 isI 19 4 1 2 := zk_FO_FP fo_X5_19_4 (Cn := RX5) (T := TX5) (N := 9) rfl (Or.inr ⟨rfl, h, rfl⟩) tyX5_ok nmX5 rfl
theorem fo_X5_25_4 : zk_FO RX5 25 4 2 := ⟨RX5, TX5, 9, "ClerestoryPlan$Plan", rfl, by decide, iw_X5, zk_wi 451 (by decide +kernel) rfl, Or.inl rfl⟩
theorem fpi_X5_25_4 {isI : Prop} (h : isI) : zk_FP RX5 isI 25 4 2 2 := zk_FO_FP fo_X5_25_4 (Cn := RX5) (T := TX5) (N := 9) rfl (Or.inr ⟨rfl, h, rfl⟩) tyX5_ok nmX5 rfl
theorem fo_X5_31_4 : zk_FO RX5 31 4 3 := ⟨RX5, TX5, 9, "ClerestoryPlan$Plan", rfl, by decide, iw_X5, zk_wi 452 (by decide +kernel) rfl, Or.inl rfl⟩
theorem fpi_X5_31_4 {isI : Prop} (h : isI) : zk_FP RX5 isI 31 4 3 2 := zk_FO_FP fo_X5_31_4 (Cn := RX5) (T := TX5) (N := 9) rfl (Or.inr ⟨rfl, h, rfl⟩) tyX5_ok nmX5 rfl
theorem fo_X5_44_4 : zk_FO RX5 44 4 4 := ⟨RX5, TX5, 9, "ClerestoryPlan$Plan", rfl, by decide, iw_X5, zk_wi 454 (by decide +kernel) rfl, Or.inl rfl⟩
theorem fpi_X5_44_4 {isI : Prop} (h : isI) : zk_FP RX5 isI 44 4 4 2 := zk_FO_FP fo_X5_44_4 (Cn := RX5) (T := TX5) (N := 9) rfl (Or.inr ⟨rfl, h, rfl⟩) tyX5_ok nmX5 rfl
theorem fo_X5_51_1 : zk_FO RX5 51 1 6 := ⟨RX1, TX1, 8, "ClerestoryPlan$Exit", rfl, by decide, iw_X1, zk_wi 865 (by decide +kernel) rfl, Or.inl rfl⟩
theorem fo_X5_51_6 : zk_FO RX5 51 6 6 := ⟨RX7, TX7, 7, "ClerestoryPlan$Exit", rfl, by decide, iw_X7, zk_wi 865 (by decide +kernel) rfl, Or.inl rfl⟩
theorem fo_X5_69_3 : zk_FO RX5 69 3 4 := ⟨RX4, TX4, 5, "ClerestoryPlan$Piece", rfl, by decide, iw_X4, zk_wi 781 (by decide +kernel) rfl, Or.inl rfl⟩
theorem fo_X5_75_5 : zk_FO RX5 75 5 6 := ⟨RX6, TX6, 8, "ClerestoryPlan$Room", rfl, by decide, iw_X6, zk_wi 695 (by decide +kernel) rfl, Or.inl rfl⟩
theorem fo_X5_78_5 : zk_FO RX5 78 5 1 := ⟨RX6, TX6, 8, "ClerestoryPlan$Room", rfl, by decide, iw_X6, zk_wi 680 (by decide +kernel) rfl, Or.inl rfl⟩
theorem fo_X5_99_1 : zk_FO RX5 99 1 7 := ⟨RX1, TX1, 8, "ClerestoryPlan$Door", rfl, by decide, iw_X1, zk_wi 849 (by decide +kernel) rfl, Or.inl rfl⟩
def gfl_X5 : List (Nat × (List Nat × Nat)) := [(11, ([4], 0)), (19, ([4], 1)), (25, ([4], 2)), (31, ([4], 3)), (51, ([1, 6], 6)), (69, ([3], 4)), (75, ([5], 6)), (78, ([5], 1)), (99, ([1], 7))]
theorem gfo_X5 : ∀ q ∈ gfl_X5, ∀ ci ∈ q.2.1, zk_FO RX5 q.1 ci q.2.2 := List.forall_mem_cons.mpr ⟨List.forall_mem_cons.mpr ⟨fo_X5_11_4, fun _ h => absurd h List.not_mem_nil⟩, List.forall_mem_cons.mpr ⟨List.forall_mem_cons.mpr ⟨fo_X5_19_4, fun _ h => absurd h List.not_mem_nil⟩, List.forall_mem_cons.mpr ⟨List.forall_mem_cons.mpr ⟨fo_X5_25_4, fun _ h => absurd h List.not_mem_nil⟩, List.forall_mem_cons.mpr ⟨List.forall_mem_cons.mpr ⟨fo_X5_31_4, fun _ h => absurd h List.not_mem_nil⟩, List.forall_mem_cons.mpr ⟨List.forall_mem_cons.mpr ⟨fo_X5_51_1, List.forall_mem_cons.mpr ⟨fo_X5_51_6, fun _ h => absurd h List.not_mem_nil⟩⟩, List.forall_mem_cons.mpr ⟨List.forall_mem_cons.mpr ⟨fo_X5_69_3, fun _ h => absurd h List.not_mem_nil⟩, List.forall_mem_cons.mpr ⟨List.forall_mem_cons.mpr ⟨fo_X5_75_5, fun _ h => absurd h List.not_mem_nil⟩, List.forall_mem_cons.mpr ⟨List.forall_mem_cons.mpr ⟨fo_X5_78_5, fun _ h => absurd h List.not_mem_nil⟩, List.forall_mem_cons.mpr ⟨List.forall_mem_cons.mpr ⟨fo_X5_99_1, fun _ h => absurd h List.not_mem_nil⟩, fun _ h => absurd h List.not_mem_nil⟩⟩⟩⟩⟩⟩⟩⟩⟩
def pfl_X5 : List (Nat × (List Nat × Nat × Nat)) := []
theorem pfo_X5 {isI : Prop} : ∀ q ∈ pfl_X5, ∀ ci ∈ q.2.1, zk_FP RX5 isI q.1 ci q.2.2.1 q.2.2.2 := fun _ h => absurd h List.not_mem_nil
def pfil_X5 : List (Nat × (List Nat × Nat × Nat)) := [(11, ([4], 0, 2)), (19, ([4], 1, 2)), (25, ([4], 2, 2)), (31, ([4], 3, 2)), (44, ([4], 4, 2))]
theorem pfio_X5 {isI : Prop} (h : isI) : ∀ q ∈ pfil_X5, ∀ ci ∈ q.2.1, zk_FP RX5 isI q.1 ci q.2.2.1 q.2.2.2 := List.forall_mem_cons.mpr ⟨List.forall_mem_cons.mpr ⟨fpi_X5_11_4 h, fun _ h => absurd h List.not_mem_nil⟩, List.forall_mem_cons.mpr ⟨List.forall_mem_cons.mpr ⟨fpi_X5_19_4 h, fun _ h => absurd h List.not_mem_nil⟩, List.forall_mem_cons.mpr ⟨List.forall_mem_cons.mpr ⟨fpi_X5_25_4 h, fun _ h => absurd h List.not_mem_nil⟩, List.forall_mem_cons.mpr ⟨List.forall_mem_cons.mpr ⟨fpi_X5_31_4 h, fun _ h => absurd h List.not_mem_nil⟩, List.forall_mem_cons.mpr ⟨List.forall_mem_cons.mpr ⟨fpi_X5_44_4 h, fun _ h => absurd h List.not_mem_nil⟩, fun _ h => absurd h List.not_mem_nil⟩⟩⟩⟩⟩
def nwl_X5 : List (Nat × Nat) := []
theorem nwo_X5 : ∀ q ∈ nwl_X5, zk_NO RX5 q.1 q.2 := fun _ h => absurd h List.not_mem_nil
theorem an_X5_9 : zk_AN RX5 9 3 := Or.inr ⟨RX6, fun E => rfl, zk_wi 426 (by decide +kernel) rfl, by decide⟩
theorem an_X5_17 : zk_AN RX5 17 4 := Or.inr ⟨RX1, fun E => rfl, zk_wi 428 (by decide +kernel) rfl, by decide⟩
theorem an_X5_23 : zk_AN RX5 23 5 := Or.inr ⟨RX9, fun E => rfl, zk_wi 430 (by decide +kernel) rfl, by decide⟩
theorem an_X5_29 : zk_AN RX5 29 6 := Or.inr ⟨RX7, fun E => rfl, zk_wi 432 (by decide +kernel) rfl, by decide⟩
def anl_X5 : List (Nat × Nat) := [(9, 3), (17, 4), (23, 5), (29, 6)]
theorem ano_X5 : ∀ q ∈ anl_X5, zk_AN RX5 q.1 q.2 := List.forall_mem_cons.mpr ⟨an_X5_9, List.forall_mem_cons.mpr ⟨an_X5_17, List.forall_mem_cons.mpr ⟨an_X5_23, List.forall_mem_cons.mpr ⟨an_X5_29, fun _ h => absurd h List.not_mem_nil⟩⟩⟩⟩
def kcl_X5 : List (Nat × Value) := []
theorem kco_X5 : ∀ q ∈ kcl_X5, (∀ x, q.2 = .int x → Cond.constant RX5 q.1 x ∈ zk_WS) ∧ (∀ x, q.2 = .long x → Cond.constantLong RX5 q.1 x ∈ zk_WS) := fun _ h => absurd h List.not_mem_nil
def tb_X5 : zk_Tb := (zk_lka gfl_X5, zk_lka pfl_X5, zk_lka nwl_X5, zk_lka anl_X5, zk_lka kcl_X5)
theorem tbo_X5 {isI : Prop} : zk_TB RX5 isI tb_X5 := ⟨fun i cs k h => gfo_X5 _ (zk_lka_mem h), fun i cs k tag h2 => pfo_X5 _ (zk_lka_mem h2), fun i ci h => nwo_X5 _ (zk_lka_mem h), fun i k h => ano_X5 _ (zk_lka_mem h), fun i v h => kco_X5 _ (zk_lka_mem h)⟩
def tbi_X5 : zk_Tb := (zk_lka gfl_X5, zk_lka pfil_X5, zk_lka nwl_X5, zk_lka anl_X5, zk_lka kcl_X5)
theorem tbio_X5 {isI : Prop} (h : isI) : zk_TB RX5 isI tbi_X5 := ⟨fun i cs k h => gfo_X5 _ (zk_lka_mem h), fun i cs k tag h2 => pfio_X5 h _ (zk_lka_mem h2), fun i ci h => nwo_X5 _ (zk_lka_mem h), fun i k h => ano_X5 _ (zk_lka_mem h), fun i v h => kco_X5 _ (zk_lka_mem h)⟩
theorem fo_X6_7_5 : zk_FO RX6 7 5 0 := ⟨RX6, TX6, 8, "ClerestoryPlan$Room", rfl, by decide, iw_X6, zk_wi 673 (by decide +kernel) rfl, Or.inl rfl⟩
theorem fpi_X6_7_5 {isI : Prop} (h : isI) : zk_FP RX6 isI 7 5 0 0 := zk_FO_FP fo_X6_7_5 (Cn := RX6) (T := TX6) (N := 8) rfl (Or.inr ⟨rfl, h, rfl⟩) tyX6_ok nmX6 rfl
theorem fo_X6_13_5 : zk_FO RX6 13 5 1 := ⟨RX6, TX6, 8, "ClerestoryPlan$Room", rfl, by decide, iw_X6, zk_wi 677 (by decide +kernel) rfl, Or.inl rfl⟩
theorem fpi_X6_13_5 {isI : Prop} (h : isI) : zk_FP RX6 isI 13 5 1 0 := zk_FO_FP fo_X6_13_5 (Cn := RX6) (T := TX6) (N := 8) rfl (Or.inr ⟨rfl, h, rfl⟩) tyX6_ok nmX6 rfl
theorem fo_X6_16_5 : zk_FO RX6 16 5 2 := ⟨RX6, TX6, 8, "ClerestoryPlan$Room", rfl, by decide, iw_X6, zk_wi 681 (by decide +kernel) rfl, Or.inl rfl⟩
theorem fpi_X6_16_5 {isI : Prop} (h : isI) : zk_FP RX6 isI 16 5 2 0 := zk_FO_FP fo_X6_16_5 (Cn := RX6) (T := TX6) (N := 8) rfl (Or.inr ⟨rfl, h, rfl⟩) tyX6_ok nmX6 rfl
theorem fo_X6_19_5 : zk_FO RX6 19 5 3 := ⟨RX6, TX6, 8, "ClerestoryPlan$Room", rfl, by decide, iw_X6, zk_wi 683 (by decide +kernel) rfl, Or.inl rfl⟩
theorem fpi_X6_19_5 {isI : Prop} (h : isI) : zk_FP RX6 isI 19 5 3 0 := zk_FO_FP fo_X6_19_5 (Cn := RX6) (T := TX6) (N := 8) rfl (Or.inr ⟨rfl, h, rfl⟩) tyX6_ok nmX6 rfl
theorem fo_X6_22_5 : zk_FO RX6 22 5 4 := ⟨RX6, TX6, 8, "ClerestoryPlan$Room", rfl, by decide, iw_X6, zk_wi 685 (by decide +kernel) rfl, Or.inl rfl⟩
theorem fpi_X6_22_5 {isI : Prop} (h : isI) : zk_FP RX6 isI 22 5 4 0 := zk_FO_FP fo_X6_22_5 (Cn := RX6) (T := TX6) (N := 8) rfl (Or.inr ⟨rfl, h, rfl⟩) tyX6_ok nmX6 rfl
theorem fo_X6_25_5 : zk_FO RX6 25 5 5 := ⟨RX6, TX6, 8, "ClerestoryPlan$Room", rfl, by decide, iw_X6, zk_wi 689 (by decide +kernel) rfl, Or.inl rfl⟩
theorem fpi_X6_25_5 {isI : Prop} (h : isI) : zk_FP RX6 isI 25 5 5 0 := zk_FO_FP fo_X6_25_5 (Cn := RX6) (T := TX6) (N := 8) rfl (Or.inr ⟨rfl, h, rfl⟩) tyX6_ok nmX6 rfl
theorem fo_X6_28_5 : zk_FO RX6 28 5 6 := ⟨RX6, TX6, 8, "ClerestoryPlan$Room", rfl, by decide, iw_X6, zk_wi 693 (by decide +kernel) rfl, Or.inl rfl⟩
theorem fpi_X6_28_5 {isI : Prop} (h : isI) : zk_FP RX6 isI 28 5 6 0 := zk_FO_FP fo_X6_28_5 (Cn := RX6) (T := TX6) (N := 8) rfl (Or.inr ⟨rfl, h, rfl⟩) tyX6_ok nmX6 rfl
def gfl_X6 : List (Nat × (List Nat × Nat)) := [(16, ([5], 2)), (19, ([5], 3)), (22, ([5], 4)), (25, ([5], 5))]
theorem gfo_X6 : ∀ q ∈ gfl_X6, ∀ ci ∈ q.2.1, zk_FO RX6 q.1 ci q.2.2 := List.forall_mem_cons.mpr ⟨List.forall_mem_cons.mpr ⟨fo_X6_16_5, fun _ h => absurd h List.not_mem_nil⟩, List.forall_mem_cons.mpr ⟨List.forall_mem_cons.mpr ⟨fo_X6_19_5, fun _ h => absurd h List.not_mem_nil⟩, List.forall_mem_cons.mpr ⟨List.forall_mem_cons.mpr ⟨fo_X6_22_5, fun _ h => absurd h List.not_mem_nil⟩, List.forall_mem_cons.mpr ⟨List.forall_mem_cons.mpr ⟨fo_X6_25_5, fun _ h => absurd h List.not_mem_nil⟩, fun _ h => absurd h List.not_mem_nil⟩⟩⟩⟩
def pfl_X6 : List (Nat × (List Nat × Nat × Nat)) := []
theorem pfo_X6 {isI : Prop} : ∀ q ∈ pfl_X6, ∀ ci ∈ q.2.1, zk_FP RX6 isI q.1 ci q.2.2.1 q.2.2.2 := fun _ h => absurd h List.not_mem_nil
def pfil_X6 : List (Nat × (List Nat × Nat × Nat)) := [(7, ([5], 0, 0)), (13, ([5], 1, 0)), (16, ([5], 2, 0)), (19, ([5], 3, 0)), (22, ([5], 4, 0)), (25, ([5], 5, 0)), (28, ([5], 6, 0))]
theorem pfio_X6 {isI : Prop} (h : isI) : ∀ q ∈ pfil_X6, ∀ ci ∈ q.2.1, zk_FP RX6 isI q.1 ci q.2.2.1 q.2.2.2 := List.forall_mem_cons.mpr ⟨List.forall_mem_cons.mpr ⟨fpi_X6_7_5 h, fun _ h => absurd h List.not_mem_nil⟩, List.forall_mem_cons.mpr ⟨List.forall_mem_cons.mpr ⟨fpi_X6_13_5 h, fun _ h => absurd h List.not_mem_nil⟩, List.forall_mem_cons.mpr ⟨List.forall_mem_cons.mpr ⟨fpi_X6_16_5 h, fun _ h => absurd h List.not_mem_nil⟩, List.forall_mem_cons.mpr ⟨List.forall_mem_cons.mpr ⟨fpi_X6_19_5 h, fun _ h => absurd h List.not_mem_nil⟩, List.forall_mem_cons.mpr ⟨List.forall_mem_cons.mpr ⟨fpi_X6_22_5 h, fun _ h => absurd h List.not_mem_nil⟩, List.forall_mem_cons.mpr ⟨List.forall_mem_cons.mpr ⟨fpi_X6_25_5 h, fun _ h => absurd h List.not_mem_nil⟩, List.forall_mem_cons.mpr ⟨List.forall_mem_cons.mpr ⟨fpi_X6_28_5 h, fun _ h => absurd h List.not_mem_nil⟩, fun _ h => absurd h List.not_mem_nil⟩⟩⟩⟩⟩⟩⟩
def nwl_X6 : List (Nat × Nat) := []
theorem nwo_X6 : ∀ q ∈ nwl_X6, zk_NO RX6 q.1 q.2 := fun _ h => absurd h List.not_mem_nil
def anl_X6 : List (Nat × Nat) := []
theorem ano_X6 : ∀ q ∈ anl_X6, zk_AN RX6 q.1 q.2 := fun _ h => absurd h List.not_mem_nil
def kcl_X6 : List (Nat × Value) := []
theorem kco_X6 : ∀ q ∈ kcl_X6, (∀ x, q.2 = .int x → Cond.constant RX6 q.1 x ∈ zk_WS) ∧ (∀ x, q.2 = .long x → Cond.constantLong RX6 q.1 x ∈ zk_WS) := fun _ h => absurd h List.not_mem_nil
def tb_X6 : zk_Tb := (zk_lka gfl_X6, zk_lka pfl_X6, zk_lka nwl_X6, zk_lka anl_X6, zk_lka kcl_X6)
theorem tbo_X6 {isI : Prop} : zk_TB RX6 isI tb_X6 := ⟨fun i cs k h => gfo_X6 _ (zk_lka_mem h), fun i cs k tag h2 => pfo_X6 _ (zk_lka_mem h2), fun i ci h => nwo_X6 _ (zk_lka_mem h), fun i k h => ano_X6 _ (zk_lka_mem h), fun i v h => kco_X6 _ (zk_lka_mem h)⟩
def tbi_X6 : zk_Tb := (zk_lka gfl_X6, zk_lka pfil_X6, zk_lka nwl_X6, zk_lka anl_X6, zk_lka kcl_X6)
theorem tbio_X6 {isI : Prop} (h : isI) : zk_TB RX6 isI tbi_X6 := ⟨fun i cs k h => gfo_X6 _ (zk_lka_mem h), fun i cs k tag h2 => pfio_X6 h _ (zk_lka_mem h2), fun i ci h => nwo_X6 _ (zk_lka_mem h), fun i k h => ano_X6 _ (zk_lka_mem h), fun i v h => kco_X6 _ (zk_lka_mem h)⟩
def gfl_X7 : List (Nat × (List Nat × Nat)) := []
theorem gfo_X7 : ∀ q ∈ gfl_X7, ∀ ci ∈ q.2.1, zk_FO RX7 q.1 ci q.2.2 := fun _ h => absurd h List.not_mem_nil
def pfl_X7 : List (Nat × (List Nat × Nat × Nat)) := []
theorem pfo_X7 {isI : Prop} : ∀ q ∈ pfl_X7, ∀ ci ∈ q.2.1, zk_FP RX7 isI q.1 ci q.2.2.1 q.2.2.2 := fun _ h => absurd h List.not_mem_nil
def pfil_X7 : List (Nat × (List Nat × Nat × Nat)) := []
theorem pfio_X7 {isI : Prop} (h : isI) : ∀ q ∈ pfil_X7, ∀ ci ∈ q.2.1, zk_FP RX7 isI q.1 ci q.2.2.1 q.2.2.2 := fun _ h => absurd h List.not_mem_nil
def nwl_X7 : List (Nat × Nat) := []
theorem nwo_X7 : ∀ q ∈ nwl_X7, zk_NO RX7 q.1 q.2 := fun _ h => absurd h List.not_mem_nil
def anl_X7 : List (Nat × Nat) := []
theorem ano_X7 : ∀ q ∈ anl_X7, zk_AN RX7 q.1 q.2 := fun _ h => absurd h List.not_mem_nil
def kcl_X7 : List (Nat × Value) := []
theorem kco_X7 : ∀ q ∈ kcl_X7, (∀ x, q.2 = .int x → Cond.constant RX7 q.1 x ∈ zk_WS) ∧ (∀ x, q.2 = .long x → Cond.constantLong RX7 q.1 x ∈ zk_WS) := fun _ h => absurd h List.not_mem_nil
def tb_X7 : zk_Tb := (zk_lka gfl_X7, zk_lka pfl_X7, zk_lka nwl_X7, zk_lka anl_X7, zk_lka kcl_X7)
theorem tbo_X7 {isI : Prop} : zk_TB RX7 isI tb_X7 := ⟨fun i cs k h => gfo_X7 _ (zk_lka_mem h), fun i cs k tag h2 => pfo_X7 _ (zk_lka_mem h2), fun i ci h => nwo_X7 _ (zk_lka_mem h), fun i k h => ano_X7 _ (zk_lka_mem h), fun i v h => kco_X7 _ (zk_lka_mem h)⟩
def tbi_X7 : zk_Tb := (zk_lka gfl_X7, zk_lka pfil_X7, zk_lka nwl_X7, zk_lka anl_X7, zk_lka kcl_X7)
theorem tbio_X7 {isI : Prop} (h : isI) : zk_TB RX7 isI tbi_X7 := ⟨fun i cs k h => gfo_X7 _ (zk_lka_mem h), fun i cs k tag h2 => pfio_X7 h _ (zk_lka_mem h2), fun i ci h => nwo_X7 _ (zk_lka_mem h), fun i k h => ano_X7 _ (zk_lka_mem h), fun i v h => kco_X7 _ (zk_lka_mem h)⟩
theorem fo_X8_9_7 : zk_FO RX8 9 7 0 := ⟨RX8, TX8, 7, "ClerestoryPlan$Ways", rfl, by decide, iw_X8, zk_wi 486 (by decide +kernel) rfl, Or.inl rfl⟩
theorem fpi_X8_9_7 {isI : Prop} (h : isI) : zk_FP RX8 isI 9 7 0 2 := zk_FO_FP fo_X8_9_7 (Cn := RX8) (T := TX8) (N := 7) rfl (Or.inr ⟨rfl, h, rfl⟩) tyX8_ok nmX8 rfl
theorem fo_X8_15_7 : zk_FO RX8 15 7 1 := ⟨RX8, TX8, 7, "ClerestoryPlan$Ways", rfl, by decide, iw_X8, zk_wi 488 (by decide +kernel) rfl, Or.inl rfl⟩
theorem fpi_X8_15_7 {isI : Prop} (h : isI) : zk_FP RX8 isI 15 7 1 2 := zk_FO_FP fo_X8_15_7 (Cn := RX8) (T := TX8) (N := 7) rfl (Or.inr ⟨rfl, h, rfl⟩) tyX8_ok nmX8 rfl
theorem fo_X8_18_7 : zk_FO RX8 18 7 2 := ⟨RX8, TX8, 7, "ClerestoryPlan$Ways", rfl, by decide, iw_X8, zk_wi 490 (by decide +kernel) rfl, Or.inl rfl⟩
theorem fpi_X8_18_7 {isI : Prop} (h : isI) : zk_FP RX8 isI 18 7 2 2 := zk_FO_FP fo_X8_18_7 (Cn := RX8) (T := TX8) (N := 7) rfl (Or.inr ⟨rfl, h, rfl⟩) tyX8_ok nmX8 rfl
theorem fo_X8_21_7 : zk_FO RX8 21 7 3 := ⟨RX8, TX8, 7, "ClerestoryPlan$Ways", rfl, by decide, iw_X8, zk_wi 493 (by decide +kernel) rfl, Or.inl rfl⟩
theorem fpi_X8_21_7 {isI : Prop} (h : isI) : zk_FP RX8 isI 21 7 3 2 := zk_FO_FP fo_X8_21_7 (Cn := RX8) (T := TX8) (N := 7) rfl (Or.inr ⟨rfl, h, rfl⟩) tyX8_ok nmX8 rfl
theorem fo_X8_24_7 : zk_FO RX8 24 7 4 := ⟨RX8, TX8, 7, "ClerestoryPlan$Ways", rfl, by decide, iw_X8, zk_wi 496 (by decide +kernel) rfl, Or.inl rfl⟩
theorem fpi_X8_24_7 {isI : Prop} (h : isI) : zk_FP RX8 isI 24 7 4 2 := zk_FO_FP fo_X8_24_7 (Cn := RX8) (T := TX8) (N := 7) rfl (Or.inr ⟨rfl, h, rfl⟩) tyX8_ok nmX8 rfl
theorem fo_X8_27_7 : zk_FO RX8 27 7 5 := ⟨RX8, TX8, 7, "ClerestoryPlan$Ways", rfl, by decide, iw_X8, zk_wi 498 (by decide +kernel) rfl, Or.inl rfl⟩
theorem fpi_X8_27_7 {isI : Prop} (h : isI) : zk_FP RX8 isI 27 7 5 2 := zk_FO_FP fo_X8_27_7 (Cn := RX8) (T := TX8) (N := 7) rfl (Or.inr ⟨rfl, h, rfl⟩) tyX8_ok nmX8 rfl
theorem fo_X8_30_7 : zk_FO RX8 30 7 6 := ⟨RX8, TX8, 7, "ClerestoryPlan$Ways", rfl, by decide, iw_X8, zk_wi 501 (by decide +kernel) rfl, Or.inl rfl⟩
theorem fpi_X8_30_7 {isI : Prop} (h : isI) : zk_FP RX8 isI 30 7 6 2 := zk_FO_FP fo_X8_30_7 (Cn := RX8) (T := TX8) (N := 7) rfl (Or.inr ⟨rfl, h, rfl⟩) tyX8_ok nmX8 rfl
theorem fo_X8_39_1 : zk_FO RX8 39 1 6 := ⟨RX1, TX1, 8, "ClerestoryPlan$Exit", rfl, by decide, iw_X1, zk_wi 864 (by decide +kernel) rfl, Or.inl rfl⟩
theorem fo_X8_39_6 : zk_FO RX8 39 6 6 := ⟨RX7, TX7, 7, "ClerestoryPlan$Exit", rfl, by decide, iw_X7, zk_wi 864 (by decide +kernel) rfl, Or.inl rfl⟩
theorem fo_X8_49_1 : zk_FO RX8 49 1 1 := ⟨RX1, TX1, 8, "ClerestoryPlan$Exit", rfl, by decide, iw_X1, zk_wi 853 (by decide +kernel) rfl, Or.inl rfl⟩
theorem fo_X8_49_6 : zk_FO RX8 49 6 1 := ⟨RX7, TX7, 7, "ClerestoryPlan$Exit", rfl, by decide, iw_X7, zk_wi 853 (by decide +kernel) rfl, Or.inl rfl⟩
theorem fo_X8_57_1 : zk_FO RX8 57 1 0 := ⟨RX1, TX1, 8, "ClerestoryPlan$Exit", rfl, by decide, iw_X1, zk_wi 851 (by decide +kernel) rfl, Or.inl rfl⟩
theorem fo_X8_57_6 : zk_FO RX8 57 6 0 := ⟨RX7, TX7, 7, "ClerestoryPlan$Exit", rfl, by decide, iw_X7, zk_wi 851 (by decide +kernel) rfl, Or.inl rfl⟩
theorem fo_X8_68_1 : zk_FO RX8 68 1 4 := ⟨RX1, TX1, 8, "ClerestoryPlan$Exit", rfl, by decide, iw_X1, zk_wi 859 (by decide +kernel) rfl, Or.inl rfl⟩
theorem fo_X8_68_6 : zk_FO RX8 68 6 4 := ⟨RX7, TX7, 7, "ClerestoryPlan$Exit", rfl, by decide, iw_X7, zk_wi 859 (by decide +kernel) rfl, Or.inl rfl⟩
theorem fo_X8_72_1 : zk_FO RX8 72 1 2 := ⟨RX1, TX1, 8, "ClerestoryPlan$Exit", rfl, by decide, iw_X1, zk_wi 855 (by decide +kernel) rfl, Or.inl rfl⟩
theorem fo_X8_72_6 : zk_FO RX8 72 6 2 := ⟨RX7, TX7, 7, "ClerestoryPlan$Exit", rfl, by decide, iw_X7, zk_wi 855 (by decide +kernel) rfl, Or.inl rfl⟩
theorem fo_X8_75_1 : zk_FO RX8 75 1 3 := ⟨RX1, TX1, 8, "ClerestoryPlan$Exit", rfl, by decide, iw_X1, zk_wi 857 (by decide +kernel) rfl, Or.inl rfl⟩
theorem fo_X8_75_6 : zk_FO RX8 75 6 3 := ⟨RX7, TX7, 7, "ClerestoryPlan$Exit", rfl, by decide, iw_X7, zk_wi 857 (by decide +kernel) rfl, Or.inl rfl⟩
theorem fo_X8_82_4 : zk_FO RX8 82 4 0 := ⟨RX5, TX5, 9, "ClerestoryPlan$Plan", rfl, by decide, iw_X5, zk_wi 447 (by decide +kernel) rfl, Or.inl rfl⟩
theorem fo_X8_86_5 : zk_FO RX8 86 5 2 := ⟨RX6, TX6, 8, "ClerestoryPlan$Room", rfl, by decide, iw_X6, zk_wi 682 (by decide +kernel) rfl, Or.inl rfl⟩
theorem fo_X8_91_5 : zk_FO RX8 91 5 4 := ⟨RX6, TX6, 8, "ClerestoryPlan$Room", rfl, by decide, iw_X6, zk_wi 687 (by decide +kernel) rfl, Or.inl rfl⟩
theorem fo_X8_94_5 : zk_FO RX8 94 5 3 := ⟨RX6, TX6, 8, "ClerestoryPlan$Room", rfl, by decide, iw_X6, zk_wi 684 (by decide +kernel) rfl, Or.inl rfl⟩
theorem fo_X8_97_5 : zk_FO RX8 97 5 5 := ⟨RX6, TX6, 8, "ClerestoryPlan$Room", rfl, by decide, iw_X6, zk_wi 691 (by decide +kernel) rfl, Or.inl rfl⟩
theorem fo_X8_117_5 : zk_FO RX8 117 5 0 := ⟨RX6, TX6, 8, "ClerestoryPlan$Room", rfl, by decide, iw_X6, zk_wi 676 (by decide +kernel) rfl, Or.inl rfl⟩
theorem fo_X8_128_5 : zk_FO RX8 128 5 7 := ⟨RX6, TX6, 8, "ClerestoryPlan$Room", rfl, by decide, iw_X6, zk_wi 699 (by decide +kernel) rfl, Or.inl rfl⟩
def gfl_X8 : List (Nat × (List Nat × Nat)) := [(9, ([7], 0)), (15, ([7], 1)), (18, ([7], 2)), (21, ([7], 3)), (24, ([7], 4)), (27, ([7], 5)), (30, ([7], 6)), (39, ([1, 6], 6)), (49, ([1, 6], 1)), (57, ([1, 6], 0)), (68, ([1, 6], 4)), (72, ([1, 6], 2)), (75, ([1, 6], 3)), (82, ([4], 0)), (86, ([5], 2)), (91, ([5], 4)), (94, ([5], 3)), (97, ([5], 5)), (117, ([5], 0)), (128, ([5], 7))]
theorem gfo_X8 : ∀ q ∈ gfl_X8, ∀ ci ∈ q.2.1, zk_FO RX8 q.1 ci q.2.2 := List.forall_mem_cons.mpr ⟨List.forall_mem_cons.mpr ⟨fo_X8_9_7, fun _ h => absurd h List.not_mem_nil⟩, List.forall_mem_cons.mpr ⟨List.forall_mem_cons.mpr ⟨fo_X8_15_7, fun _ h => absurd h List.not_mem_nil⟩, List.forall_mem_cons.mpr ⟨List.forall_mem_cons.mpr ⟨fo_X8_18_7, fun _ h => absurd h List.not_mem_nil⟩, List.forall_mem_cons.mpr ⟨List.forall_mem_cons.mpr ⟨fo_X8_21_7, fun _ h => absurd h List.not_mem_nil⟩, List.forall_mem_cons.mpr ⟨List.forall_mem_cons.mpr ⟨fo_X8_24_7, fun _ h => absurd h List.not_mem_nil⟩, List.forall_mem_cons.mpr ⟨List.forall_mem_cons.mpr ⟨fo_X8_27_7, fun _ h => absurd h List.not_mem_nil⟩, List.forall_mem_cons.mpr ⟨List.forall_mem_cons.mpr ⟨fo_X8_30_7, fun _ h => absurd h List.not_mem_nil⟩, List.forall_mem_cons.mpr ⟨List.forall_mem_cons.mpr ⟨fo_X8_39_1, List.forall_mem_cons.mpr ⟨fo_X8_39_6, fun _ h => absurd h List.not_mem_nil⟩⟩, List.forall_mem_cons.mpr ⟨List.forall_mem_cons.mpr ⟨fo_X8_49_1, List.forall_mem_cons.mpr ⟨fo_X8_49_6, fun _ h => absurd h List.not_mem_nil⟩⟩, List.forall_mem_cons.mpr ⟨List.forall_mem_cons.mpr ⟨fo_X8_57_1, List.forall_mem_cons.mpr ⟨fo_X8_57_6, fun _ h => absurd h List.not_mem_nil⟩⟩, List.forall_mem_cons.mpr ⟨List.forall_mem_cons.mpr ⟨fo_X8_68_1, List.forall_mem_cons.mpr ⟨fo_X8_68_6, fun _ h => absurd h List.not_mem_nil⟩⟩, List.forall_mem_cons.mpr ⟨List.forall_mem_cons.mpr ⟨fo_X8_72_1, List.forall_mem_cons.mpr ⟨fo_X8_72_6, fun _ h => absurd h List.not_mem_nil⟩⟩, List.forall_mem_cons.mpr ⟨List.forall_mem_cons.mpr ⟨fo_X8_75_1, List.forall_mem_cons.mpr ⟨fo_X8_75_6, fun _ h => absurd h List.not_mem_nil⟩⟩, List.forall_mem_cons.mpr ⟨List.forall_mem_cons.mpr ⟨fo_X8_82_4, fun _ h => absurd h List.not_mem_nil⟩, List.forall_mem_cons.mpr ⟨List.forall_mem_cons.mpr ⟨fo_X8_86_5, fun _ h => absurd h List.not_mem_nil⟩, List.forall_mem_cons.mpr ⟨List.forall_mem_cons.mpr ⟨fo_X8_91_5, fun _ h => absurd h List.not_mem_nil⟩, List.forall_mem_cons.mpr ⟨List.forall_mem_cons.mpr ⟨fo_X8_94_5, fun _ h => absurd h List.not_mem_nil⟩, List.forall_mem_cons.mpr ⟨List.forall_mem_cons.mpr ⟨fo_X8_97_5, fun _ h => absurd h List.not_mem_nil⟩, List.forall_mem_cons.mpr ⟨List.forall_mem_cons.mpr ⟨fo_X8_117_5, fun _ h => absurd h List.not_mem_nil⟩, List.forall_mem_cons.mpr ⟨List.forall_mem_cons.mpr ⟨fo_X8_128_5, fun _ h => absurd h List.not_mem_nil⟩, fun _ h => absurd h List.not_mem_nil⟩⟩⟩⟩⟩⟩⟩⟩⟩⟩⟩⟩⟩⟩⟩⟩⟩⟩⟩⟩
def pfl_X8 : List (Nat × (List Nat × Nat × Nat)) := []
theorem pfo_X8 {isI : Prop} : ∀ q ∈ pfl_X8, ∀ ci ∈ q.2.1, zk_FP RX8 isI q.1 ci q.2.2.1 q.2.2.2 := fun _ h => absurd h List.not_mem_nil
def pfil_X8 : List (Nat × (List Nat × Nat × Nat)) := [(9, ([7], 0, 2)), (15, ([7], 1, 2)), (18, ([7], 2, 2)), (21, ([7], 3, 2)), (24, ([7], 4, 2)), (27, ([7], 5, 2)), (30, ([7], 6, 2))]
theorem pfio_X8 {isI : Prop} (h : isI) : ∀ q ∈ pfil_X8, ∀ ci ∈ q.2.1, zk_FP RX8 isI q.1 ci q.2.2.1 q.2.2.2 := List.forall_mem_cons.mpr ⟨List.forall_mem_cons.mpr ⟨fpi_X8_9_7 h, fun _ h => absurd h List.not_mem_nil⟩, List.forall_mem_cons.mpr ⟨List.forall_mem_cons.mpr ⟨fpi_X8_15_7 h, fun _ h => absurd h List.not_mem_nil⟩, List.forall_mem_cons.mpr ⟨List.forall_mem_cons.mpr ⟨fpi_X8_18_7 h, fun _ h => absurd h List.not_mem_nil⟩, List.forall_mem_cons.mpr ⟨List.forall_mem_cons.mpr ⟨fpi_X8_21_7 h, fun _ h => absurd h List.not_mem_nil⟩, List.forall_mem_cons.mpr ⟨List.forall_mem_cons.mpr ⟨fpi_X8_24_7 h, fun _ h => absurd h List.not_mem_nil⟩, List.forall_mem_cons.mpr ⟨List.forall_mem_cons.mpr ⟨fpi_X8_27_7 h, fun _ h => absurd h List.not_mem_nil⟩, List.forall_mem_cons.mpr ⟨List.forall_mem_cons.mpr ⟨fpi_X8_30_7 h, fun _ h => absurd h List.not_mem_nil⟩, fun _ h => absurd h List.not_mem_nil⟩⟩⟩⟩⟩⟩⟩
def nwl_X8 : List (Nat × Nat) := []
theorem nwo_X8 : ∀ q ∈ nwl_X8, zk_NO RX8 q.1 q.2 := fun _ h => absurd h List.not_mem_nil
def anl_X8 : List (Nat × Nat) := []
theorem ano_X8 : ∀ q ∈ anl_X8, zk_AN RX8 q.1 q.2 := fun _ h => absurd h List.not_mem_nil
def kcl_X8 : List (Nat × Value) := []
theorem kco_X8 : ∀ q ∈ kcl_X8, (∀ x, q.2 = .int x → Cond.constant RX8 q.1 x ∈ zk_WS) ∧ (∀ x, q.2 = .long x → Cond.constantLong RX8 q.1 x ∈ zk_WS) := fun _ h => absurd h List.not_mem_nil
def tb_X8 : zk_Tb := (zk_lka gfl_X8, zk_lka pfl_X8, zk_lka nwl_X8, zk_lka anl_X8, zk_lka kcl_X8)
theorem tbo_X8 {isI : Prop} : zk_TB RX8 isI tb_X8 := ⟨fun i cs k h => gfo_X8 _ (zk_lka_mem h), fun i cs k tag h2 => pfo_X8 _ (zk_lka_mem h2), fun i ci h => nwo_X8 _ (zk_lka_mem h), fun i k h => ano_X8 _ (zk_lka_mem h), fun i v h => kco_X8 _ (zk_lka_mem h)⟩
def tbi_X8 : zk_Tb := (zk_lka gfl_X8, zk_lka pfil_X8, zk_lka nwl_X8, zk_lka anl_X8, zk_lka kcl_X8)
theorem tbio_X8 {isI : Prop} (h : isI) : zk_TB RX8 isI tbi_X8 := ⟨fun i cs k h => gfo_X8 _ (zk_lka_mem h), fun i cs k tag h2 => pfio_X8 h _ (zk_lka_mem h2), fun i ci h => nwo_X8 _ (zk_lka_mem h), fun i k h => ano_X8 _ (zk_lka_mem h), fun i v h => kco_X8 _ (zk_lka_mem h)⟩
def gfl_X9 : List (Nat × (List Nat × Nat)) := []
theorem gfo_X9 : ∀ q ∈ gfl_X9, ∀ ci ∈ q.2.1, zk_FO RX9 q.1 ci q.2.2 := fun _ h => absurd h List.not_mem_nil
def pfl_X9 : List (Nat × (List Nat × Nat × Nat)) := []
theorem pfo_X9 {isI : Prop} : ∀ q ∈ pfl_X9, ∀ ci ∈ q.2.1, zk_FP RX9 isI q.1 ci q.2.2.1 q.2.2.2 := fun _ h => absurd h List.not_mem_nil
def pfil_X9 : List (Nat × (List Nat × Nat × Nat)) := []
theorem pfio_X9 {isI : Prop} (h : isI) : ∀ q ∈ pfil_X9, ∀ ci ∈ q.2.1, zk_FP RX9 isI q.1 ci q.2.2.1 q.2.2.2 := fun _ h => absurd h List.not_mem_nil
def nwl_X9 : List (Nat × Nat) := []
theorem nwo_X9 : ∀ q ∈ nwl_X9, zk_NO RX9 q.1 q.2 := fun _ h => absurd h List.not_mem_nil
def anl_X9 : List (Nat × Nat) := []
theorem ano_X9 : ∀ q ∈ anl_X9, zk_AN RX9 q.1 q.2 := fun _ h => absurd h List.not_mem_nil
def kcl_X9 : List (Nat × Value) := []
theorem kco_X9 : ∀ q ∈ kcl_X9, (∀ x, q.2 = .int x → Cond.constant RX9 q.1 x ∈ zk_WS) ∧ (∀ x, q.2 = .long x → Cond.constantLong RX9 q.1 x ∈ zk_WS) := fun _ h => absurd h List.not_mem_nil
def tb_X9 : zk_Tb := (zk_lka gfl_X9, zk_lka pfl_X9, zk_lka nwl_X9, zk_lka anl_X9, zk_lka kcl_X9)
theorem tbo_X9 {isI : Prop} : zk_TB RX9 isI tb_X9 := ⟨fun i cs k h => gfo_X9 _ (zk_lka_mem h), fun i cs k tag h2 => pfo_X9 _ (zk_lka_mem h2), fun i ci h => nwo_X9 _ (zk_lka_mem h), fun i k h => ano_X9 _ (zk_lka_mem h), fun i v h => kco_X9 _ (zk_lka_mem h)⟩
def tbi_X9 : zk_Tb := (zk_lka gfl_X9, zk_lka pfil_X9, zk_lka nwl_X9, zk_lka anl_X9, zk_lka kcl_X9)
theorem tbio_X9 {isI : Prop} (h : isI) : zk_TB RX9 isI tbi_X9 := ⟨fun i cs k h => gfo_X9 _ (zk_lka_mem h), fun i cs k tag h2 => pfio_X9 h _ (zk_lka_mem h2), fun i ci h => nwo_X9 _ (zk_lka_mem h), fun i k h => ano_X9 _ (zk_lka_mem h), fun i v h => kco_X9 _ (zk_lka_mem h)⟩
theorem fo_X10_12_9 : zk_FO RX10 12 9 0 := ⟨RX10, TX10, 5, "ClerestoryPlan", rfl, by decide, iw_X10, zk_wi 557 (by decide +kernel) rfl, Or.inl rfl⟩
theorem fpi_X10_12_9 {isI : Prop} (h : isI) : zk_FP RX10 isI 12 9 0 2 := zk_FO_FP fo_X10_12_9 (Cn := RX10) (T := TX10) (N := 5) rfl (Or.inr ⟨rfl, h, rfl⟩) tyX10_ok nmX10 rfl
theorem fo_X10_19_9 : zk_FO RX10 19 9 1 := ⟨RX10, TX10, 5, "ClerestoryPlan", rfl, by decide, iw_X10, zk_wi 558 (by decide +kernel) rfl, Or.inl rfl⟩
theorem fpi_X10_19_9 {isI : Prop} (h : isI) : zk_FP RX10 isI 19 9 1 2 := zk_FO_FP fo_X10_19_9 (Cn := RX10) (T := TX10) (N := 5) rfl (Or.inr ⟨rfl, h, rfl⟩) tyX10_ok nmX10 rfl
theorem fo_X10_26_9 : zk_FO RX10 26 9 2 := ⟨RX10, TX10, 5, "ClerestoryPlan", rfl, by decide, iw_X10, zk_wi 559 (by decide +kernel) rfl, Or.inl rfl⟩
theorem fpi_X10_26_9 {isI : Prop} (h : isI) : zk_FP RX10 isI 26 9 2 2 := zk_FO_FP fo_X10_26_9 (Cn := RX10) (T := TX10) (N := 5) rfl (Or.inr ⟨rfl, h, rfl⟩) tyX10_ok nmX10 rfl
theorem fo_X10_33_9 : zk_FO RX10 33 9 3 := ⟨RX10, TX10, 5, "ClerestoryPlan", rfl, by decide, iw_X10, zk_wi 560 (by decide +kernel) rfl, Or.inl rfl⟩
theorem fpi_X10_33_9 {isI : Prop} (h : isI) : zk_FP RX10 isI 33 9 3 2 := zk_FO_FP fo_X10_33_9 (Cn := RX10) (T := TX10) (N := 5) rfl (Or.inr ⟨rfl, h, rfl⟩) tyX10_ok nmX10 rfl
theorem fo_X10_37_9 : zk_FO RX10 37 9 4 := ⟨RX10, TX10, 5, "ClerestoryPlan", rfl, by decide, iw_X10, zk_wi 561 (by decide +kernel) rfl, Or.inl rfl⟩
theorem fp_X10_37_9 {isI : Prop} : zk_FP RX10 isI 37 9 4 1 := zk_FO_FP fo_X10_37_9 (Cn := RX10) (T := TX10) (N := 5) rfl (Or.inl rfl) tyX10_ok nmX10 rfl
theorem fpi_X10_37_9 {isI : Prop} (h : isI) : zk_FP RX10 isI 37 9 4 1 := zk_FO_FP fo_X10_37_9 (Cn := RX10) (T := TX10) (N := 5) rfl (Or.inl rfl) tyX10_ok nmX10 rfl
theorem fo_X10_52_4 : zk_FO RX10 52 4 5 := ⟨RX5, TX5, 9, "ClerestoryPlan$Plan", rfl, by decide, iw_X5, zk_wi 457 (by decide +kernel) rfl, Or.inl rfl⟩
theorem fp_X10_52_4 {isI : Prop} : zk_FP RX10 isI 52 4 5 0 := zk_FO_FP fo_X10_52_4 (Cn := RX5) (T := TX5) (N := 9) rfl (Or.inl rfl) tyX5_ok nmX5 rfl
theorem fo_X10_72_4 : zk_FO RX10 72 4 0 := ⟨RX5, TX5, 9, "ClerestoryPlan$Plan", rfl, by decide, iw_X5, zk_wi 445 (by decide +kernel) rfl, Or.inl rfl⟩
theorem fo_X10_80_5 : zk_FO RX10 80 5 0 := ⟨RX6, TX6, 8, "ClerestoryPlan$Room", rfl, by decide, iw_X6, zk_wi 674 (by decide +kernel) rfl, Or.inl rfl⟩
theorem fo_X10_89_5 : zk_FO RX10 89 5 7 := ⟨RX6, TX6, 8, "ClerestoryPlan$Room", rfl, by decide, iw_X6, zk_wi 697 (by decide +kernel) rfl, Or.inl rfl⟩
theorem fp_X10_89_5 {isI : Prop} : zk_FP RX10 isI 89 5 7 0 := zk_FO_FP fo_X10_89_5 (Cn := RX6) (T := TX6) (N := 8) rfl (Or.inl rfl) tyX6_ok nmX6 rfl
theorem fo_X10_98_4 : zk_FO RX10 98 4 6 := ⟨RX5, TX5, 9, "ClerestoryPlan$Plan", rfl, by decide, iw_X5, zk_wi 458 (by decide +kernel) rfl, Or.inl rfl⟩
theorem fp_X10_98_4 {isI : Prop} : zk_FP RX10 isI 98 4 6 0 := zk_FO_FP fo_X10_98_4 (Cn := RX5) (T := TX5) (N := 9) rfl (Or.inl rfl) tyX5_ok nmX5 rfl
theorem fo_X10_105_5 : zk_FO RX10 105 5 1 := ⟨RX6, TX6, 8, "ClerestoryPlan$Room", rfl, by decide, iw_X6, zk_wi 679 (by decide +kernel) rfl, Or.inl rfl⟩
theorem fo_X10_117_4 : zk_FO RX10 117 4 1 := ⟨RX5, TX5, 9, "ClerestoryPlan$Plan", rfl, by decide, iw_X5, zk_wi 450 (by decide +kernel) rfl, Or.inl rfl⟩
theorem fo_X10_153_4 : zk_FO RX10 153 4 8 := ⟨RX5, TX5, 9, "ClerestoryPlan$Plan", rfl, by decide, iw_X5, zk_wi 459 (by decide +kernel) rfl, Or.inl rfl⟩
theorem fp_X10_153_4 {isI : Prop} : zk_FP RX10 isI 153 4 8 0 := zk_FO_FP fo_X10_153_4 (Cn := RX5) (T := TX5) (N := 9) rfl (Or.inl rfl) tyX5_ok nmX5 rfl
theorem fo_X10_158_4 : zk_FO RX10 158 4 3 := ⟨RX5, TX5, 9, "ClerestoryPlan$Plan", rfl, by decide, iw_X5, zk_wi 453 (by decide +kernel) rfl, Or.inl rfl⟩
theorem fo_X10_171_1 : zk_FO RX10 171 1 6 := ⟨RX1, TX1, 8, "ClerestoryPlan$Door", rfl, by decide, iw_X1, zk_wi 866 (by decide +kernel) rfl, Or.inr (zk_wi 867 (by decide +kernel) rfl)⟩
theorem fp_X10_171_1 {isI : Prop} : zk_FP RX10 isI 171 1 6 1 := zk_FO_FP fo_X10_171_1 (Cn := RX1) (T := TX1) (N := 8) rfl (Or.inl rfl) tyX1_ok nmX1 rfl
theorem fo_X10_178_4 : zk_FO RX10 178 4 4 := ⟨RX5, TX5, 9, "ClerestoryPlan$Plan", rfl, by decide, iw_X5, zk_wi 456 (by decide +kernel) rfl, Or.inl rfl⟩
theorem fo_X10_200_7 : zk_FO RX10 200 7 3 := ⟨RX8, TX8, 7, "ClerestoryPlan$Ways", rfl, by decide, iw_X8, zk_wi 495 (by decide +kernel) rfl, Or.inl rfl⟩
theorem fo_X10_203_7 : zk_FO RX10 203 7 5 := ⟨RX8, TX8, 7, "ClerestoryPlan$Ways", rfl, by decide, iw_X8, zk_wi 500 (by decide +kernel) rfl, Or.inl rfl⟩
theorem fo_X10_210_7 : zk_FO RX10 210 7 4 := ⟨RX8, TX8, 7, "ClerestoryPlan$Ways", rfl, by decide, iw_X8, zk_wi 497 (by decide +kernel) rfl, Or.inl rfl⟩
theorem fo_X10_213_7 : zk_FO RX10 213 7 6 := ⟨RX8, TX8, 7, "ClerestoryPlan$Ways", rfl, by decide, iw_X8, zk_wi 504 (by decide +kernel) rfl, Or.inl rfl⟩
theorem fo_X10_216_7 : zk_FO RX10 216 7 1 := ⟨RX8, TX8, 7, "ClerestoryPlan$Ways", rfl, by decide, iw_X8, zk_wi 489 (by decide +kernel) rfl, Or.inl rfl⟩
theorem fo_X10_219_7 : zk_FO RX10 219 7 0 := ⟨RX8, TX8, 7, "ClerestoryPlan$Ways", rfl, by decide, iw_X8, zk_wi 487 (by decide +kernel) rfl, Or.inl rfl⟩
theorem fo_X10_222_7 : zk_FO RX10 222 7 2 := ⟨RX8, TX8, 7, "ClerestoryPlan$Ways", rfl, by decide, iw_X8, zk_wi 492 (by decide +kernel) rfl, Or.inl rfl⟩
theorem fo_X10_243_0 : zk_FO RX10 243 0 0 := ⟨RX0, TX0, 2, "ClerestoryPlan$Crowd", rfl, by decide, iw_X0, zk_wi 527 (by decide +kernel) rfl, Or.inl rfl⟩
theorem fo_X10_246_2 : zk_FO RX10 246 2 3 := ⟨RX3, TX3, 4, "ClerestoryPlan$FaultList", rfl, by decide, iw_X3, zk_wi 547 (by decide +kernel) rfl, Or.inl rfl⟩
theorem fp_X10_246_2 {isI : Prop} : zk_FP RX10 isI 246 2 3 0 := zk_FO_FP fo_X10_246_2 (Cn := RX3) (T := TX3) (N := 4) rfl (Or.inl rfl) tyX3_ok nmX3 rfl
theorem fo_X10_252_2 : zk_FO RX10 252 2 0 := ⟨RX3, TX3, 4, "ClerestoryPlan$FaultList", rfl, by decide, iw_X3, zk_wi 541 (by decide +kernel) rfl, Or.inl rfl⟩
theorem fo_X10_255_2 : zk_FO RX10 255 2 1 := ⟨RX3, TX3, 4, "ClerestoryPlan$FaultList", rfl, by decide, iw_X3, zk_wi 543 (by decide +kernel) rfl, Or.inl rfl⟩
theorem fo_X10_258_2 : zk_FO RX10 258 2 2 := ⟨RX3, TX3, 4, "ClerestoryPlan$FaultList", rfl, by decide, iw_X3, zk_wi 545 (by decide +kernel) rfl, Or.inl rfl⟩
theorem fo_X10_274_1 : zk_FO RX10 274 1 5 := ⟨RX1, TX1, 8, "ClerestoryPlan$Door", rfl, by decide, iw_X1, zk_wi 862 (by decide +kernel) rfl, Or.inr (zk_wi 863 (by decide +kernel) rfl)⟩
theorem fp_X10_274_1 {isI : Prop} : zk_FP RX10 isI 274 1 5 0 := zk_FO_FP fo_X10_274_1 (Cn := RX1) (T := TX1) (N := 8) rfl (Or.inl rfl) tyX1_ok nmX1 rfl
theorem fo_X10_304_5 : zk_FO RX10 304 5 4 := ⟨RX6, TX6, 8, "ClerestoryPlan$Room", rfl, by decide, iw_X6, zk_wi 688 (by decide +kernel) rfl, Or.inl rfl⟩
theorem fo_X10_307_5 : zk_FO RX10 307 5 5 := ⟨RX6, TX6, 8, "ClerestoryPlan$Room", rfl, by decide, iw_X6, zk_wi 692 (by decide +kernel) rfl, Or.inl rfl⟩
def gfl_X10 : List (Nat × (List Nat × Nat)) := [(12, ([9], 0)), (19, ([9], 1)), (26, ([9], 2)), (33, ([9], 3)), (37, ([9], 4)), (52, ([4], 5)), (72, ([4], 0)), (80, ([5], 0)), (89, ([5], 7)), (98, ([4], 6)), (105, ([5], 1)), (117, ([4], 1)), (153, ([4], 8)), (158, ([4], 3)), (171, ([1], 6)), (178, ([4], 4)), (200, ([7], 3)), (203, ([7], 5)), (210, ([7], 4)), (213, ([7], 6)), (216, ([7], 1)), (219, ([7], 0)), (222, ([7], 2)), (243, ([0], 0)), (246, ([2], 3)), (252, ([2], 0)), (255, ([2], 1)), (258, ([2], 2)), (274, ([1], 5)), (304, ([5], 4)), (307, ([5], 5))]
theorem gfo_X10 : ∀ q ∈ gfl_X10, ∀ ci ∈ q.2.1, zk_FO RX10 q.1 ci q.2.2 := List.forall_mem_cons.mpr ⟨List.forall_mem_cons.mpr ⟨fo_X10_12_9, fun _ h => absurd h List.not_mem_nil⟩, List.forall_mem_cons.mpr ⟨List.forall_mem_cons.mpr ⟨fo_X10_19_9, fun _ h => absurd h List.not_mem_nil⟩, List.forall_mem_cons.mpr ⟨List.forall_mem_cons.mpr ⟨fo_X10_26_9, fun _ h => absurd h List.not_mem_nil⟩, List.forall_mem_cons.mpr ⟨List.forall_mem_cons.mpr ⟨fo_X10_33_9, fun _ h => absurd h List.not_mem_nil⟩, List.forall_mem_cons.mpr ⟨List.forall_mem_cons.mpr ⟨fo_X10_37_9, fun _ h => absurd h List.not_mem_nil⟩, List.forall_mem_cons.mpr ⟨List.forall_mem_cons.mpr ⟨fo_X10_52_4, fun _ h => absurd h List.not_mem_nil⟩, List.forall_mem_cons.mpr ⟨List.forall_mem_cons.mpr ⟨fo_X10_72_4, fun _ h => absurd h List.not_mem_nil⟩, List.forall_mem_cons.mpr ⟨List.forall_mem_cons.mpr ⟨fo_X10_80_5, fun _ h => absurd h List.not_mem_nil⟩, List.forall_mem_cons.mpr ⟨List.forall_mem_cons.mpr ⟨fo_X10_89_5, fun _ h => absurd h List.not_mem_nil⟩, List.forall_mem_cons.mpr ⟨List.forall_mem_cons.mpr ⟨fo_X10_98_4, fun _ h => absurd h List.not_mem_nil⟩, List.forall_mem_cons.mpr ⟨List.forall_mem_cons.mpr ⟨fo_X10_105_5, fun _ h => absurd h List.not_mem_nil⟩, List.forall_mem_cons.mpr ⟨List.forall_mem_cons.mpr ⟨fo_X10_117_4, fun _ h => absurd h List.not_mem_nil⟩, List.forall_mem_cons.mpr ⟨List.forall_mem_cons.mpr ⟨fo_X10_153_4, fun _ h => absurd h List.not_mem_nil⟩, List.forall_mem_cons.mpr ⟨List.forall_mem_cons.mpr ⟨fo_X10_158_4, fun _ h => absurd h List.not_mem_nil⟩, List.forall_mem_cons.mpr ⟨List.forall_mem_cons.mpr ⟨fo_X10_171_1, fun _ h => absurd h List.not_mem_nil⟩, List.forall_mem_cons.mpr ⟨List.forall_mem_cons.mpr ⟨fo_X10_178_4, fun _ h => absurd h List.not_mem_nil⟩, List.forall_mem_cons.mpr ⟨List.forall_mem_cons.mpr ⟨fo_X10_200_7, fun _ h => absurd h List.not_mem_nil⟩, List.forall_mem_cons.mpr ⟨List.forall_mem_cons.mpr ⟨fo_X10_203_7, fun _ h => absurd h List.not_mem_nil⟩, List.forall_mem_cons.mpr ⟨List.forall_mem_cons.mpr ⟨fo_X10_210_7, fun _ h => absurd h List.not_mem_nil⟩, List.forall_mem_cons.mpr ⟨List.forall_mem_cons.mpr ⟨fo_X10_213_7, fun _ h => absurd h List.not_mem_nil⟩, List.forall_mem_cons.mpr ⟨List.forall_mem_cons.mpr ⟨fo_X10_216_7, fun _ h => absurd h List.not_mem_nil⟩, List.forall_mem_cons.mpr ⟨List.forall_mem_cons.mpr ⟨fo_X10_219_7, fun _ h => absurd h List.not_mem_nil⟩, List.forall_mem_cons.mpr ⟨List.forall_mem_cons.mpr ⟨fo_X10_222_7, fun _ h => absurd h List.not_mem_nil⟩, List.forall_mem_cons.mpr ⟨List.forall_mem_cons.mpr ⟨fo_X10_243_0, fun _ h => absurd h List.not_mem_nil⟩, List.forall_mem_cons.mpr ⟨List.forall_mem_cons.mpr ⟨fo_X10_246_2, fun _ h => absurd h List.not_mem_nil⟩, List.forall_mem_cons.mpr ⟨List.forall_mem_cons.mpr ⟨fo_X10_252_2, fun _ h => absurd h List.not_mem_nil⟩, List.forall_mem_cons.mpr ⟨List.forall_mem_cons.mpr ⟨fo_X10_255_2, fun _ h => absurd h List.not_mem_nil⟩, List.forall_mem_cons.mpr ⟨List.forall_mem_cons.mpr ⟨fo_X10_258_2, fun _ h => absurd h List.not_mem_nil⟩, List.forall_mem_cons.mpr ⟨List.forall_mem_cons.mpr ⟨fo_X10_274_1, fun _ h => absurd h List.not_mem_nil⟩, List.forall_mem_cons.mpr ⟨List.forall_mem_cons.mpr ⟨fo_X10_304_5, fun _ h => absurd h List.not_mem_nil⟩, List.forall_mem_cons.mpr ⟨List.forall_mem_cons.mpr ⟨fo_X10_307_5, fun _ h => absurd h List.not_mem_nil⟩, fun _ h => absurd h List.not_mem_nil⟩⟩⟩⟩⟩⟩⟩⟩⟩⟩⟩⟩⟩⟩⟩⟩⟩⟩⟩⟩⟩⟩⟩⟩⟩⟩⟩⟩⟩⟩⟩
def pfl_X10 : List (Nat × (List Nat × Nat × Nat)) := [(37, ([9], 4, 1)), (52, ([4], 5, 0)), (89, ([5], 7, 0)), (98, ([4], 6, 0)), (153, ([4], 8, 0)), (171, ([1], 6, 1)), (246, ([2], 3, 0)), (274, ([1], 5, 0))]
theorem pfo_X10 {isI : Prop} : ∀ q ∈ pfl_X10, ∀ ci ∈ q.2.1, zk_FP RX10 isI q.1 ci q.2.2.1 q.2.2.2 := List.forall_mem_cons.mpr ⟨List.forall_mem_cons.mpr ⟨fp_X10_37_9, fun _ h => absurd h List.not_mem_nil⟩, List.forall_mem_cons.mpr ⟨List.forall_mem_cons.mpr ⟨fp_X10_52_4, fun _ h => absurd h List.not_mem_nil⟩, List.forall_mem_cons.mpr ⟨List.forall_mem_cons.mpr ⟨fp_X10_89_5, fun _ h => absurd h List.not_mem_nil⟩, List.forall_mem_cons.mpr ⟨List.forall_mem_cons.mpr ⟨fp_X10_98_4, fun _ h => absurd h List.not_mem_nil⟩, List.forall_mem_cons.mpr ⟨List.forall_mem_cons.mpr ⟨fp_X10_153_4, fun _ h => absurd h List.not_mem_nil⟩, List.forall_mem_cons.mpr ⟨List.forall_mem_cons.mpr ⟨fp_X10_171_1, fun _ h => absurd h List.not_mem_nil⟩, List.forall_mem_cons.mpr ⟨List.forall_mem_cons.mpr ⟨fp_X10_246_2, fun _ h => absurd h List.not_mem_nil⟩, List.forall_mem_cons.mpr ⟨List.forall_mem_cons.mpr ⟨fp_X10_274_1, fun _ h => absurd h List.not_mem_nil⟩, fun _ h => absurd h List.not_mem_nil⟩⟩⟩⟩⟩⟩⟩⟩
def pfil_X10 : List (Nat × (List Nat × Nat × Nat)) := [(12, ([9], 0, 2)), (19, ([9], 1, 2)), (26, ([9], 2, 2)), (33, ([9], 3, 2)), (37, ([9], 4, 1))]
theorem pfio_X10 {isI : Prop} (h : isI) : ∀ q ∈ pfil_X10, ∀ ci ∈ q.2.1, zk_FP RX10 isI q.1 ci q.2.2.1 q.2.2.2 := List.forall_mem_cons.mpr ⟨List.forall_mem_cons.mpr ⟨fpi_X10_12_9 h, fun _ h => absurd h List.not_mem_nil⟩, List.forall_mem_cons.mpr ⟨List.forall_mem_cons.mpr ⟨fpi_X10_19_9 h, fun _ h => absurd h List.not_mem_nil⟩, List.forall_mem_cons.mpr ⟨List.forall_mem_cons.mpr ⟨fpi_X10_26_9 h, fun _ h => absurd h List.not_mem_nil⟩, List.forall_mem_cons.mpr ⟨List.forall_mem_cons.mpr ⟨fpi_X10_33_9 h, fun _ h => absurd h List.not_mem_nil⟩, List.forall_mem_cons.mpr ⟨List.forall_mem_cons.mpr ⟨fpi_X10_37_9 h, fun _ h => absurd h List.not_mem_nil⟩, fun _ h => absurd h List.not_mem_nil⟩⟩⟩⟩⟩
theorem no_X10_9 : zk_NO RX10 9 4 := ⟨RX5, TX5, 9, rfl, iw_X5, zk_wi 420 (by decide +kernel) rfl, zk_wi 421 (by decide +kernel) rfl, zk_wi 3 (by decide +kernel) rfl, rfl, tyX5_ok, by decide⟩
theorem no_X10_16 : zk_NO RX10 16 7 := ⟨RX8, TX8, 7, rfl, iw_X8, zk_wi 480 (by decide +kernel) rfl, zk_wi 481 (by decide +kernel) rfl, zk_wi 4 (by decide +kernel) rfl, rfl, tyX8_ok, by decide⟩
theorem no_X10_23 : zk_NO RX10 23 0 := ⟨RX0, TX0, 2, rfl, iw_X0, zk_wi 520 (by decide +kernel) rfl, zk_wi 521 (by decide +kernel) rfl, zk_wi 5 (by decide +kernel) rfl, rfl, tyX0_ok, by decide⟩
theorem no_X10_30 : zk_NO RX10 30 2 := ⟨RX3, TX3, 4, rfl, iw_X3, zk_wi 534 (by decide +kernel) rfl, zk_wi 535 (by decide +kernel) rfl, zk_wi 6 (by decide +kernel) rfl, rfl, tyX3_ok, by decide⟩
theorem no_X10_61 : zk_NO RX10 61 5 := ⟨RX6, TX6, 8, rfl, iw_X6, zk_wi 667 (by decide +kernel) rfl, zk_wi 668 (by decide +kernel) rfl, zk_wi 12 (by decide +kernel) rfl, rfl, tyX6_ok, by decide⟩
theorem no_X10_103 : zk_NO RX10 103 3 := ⟨RX4, TX4, 5, rfl, iw_X4, zk_wi 768 (by decide +kernel) rfl, zk_wi 769 (by decide +kernel) rfl, zk_wi 15 (by decide +kernel) rfl, rfl, tyX4_ok, by decide⟩
theorem no_X10_121 : zk_NO RX10 121 1 := ⟨RX1, TX1, 8, rfl, iw_X1, zk_wi 830 (by decide +kernel) rfl, zk_wi 831 (by decide +kernel) rfl, zk_wi 17 (by decide +kernel) rfl, rfl, tyX1_ok, by decide⟩
theorem no_X10_162 : zk_NO RX10 162 6 := ⟨RX7, TX7, 7, rfl, iw_X7, zk_wi 903 (by decide +kernel) rfl, zk_wi 904 (by decide +kernel) rfl, zk_wi 18 (by decide +kernel) rfl, rfl, tyX7_ok, by decide⟩
def nwl_X10 : List (Nat × Nat) := [(9, 4), (16, 7), (23, 0), (30, 2), (61, 5), (103, 3), (121, 1), (162, 6)]
theorem nwo_X10 : ∀ q ∈ nwl_X10, zk_NO RX10 q.1 q.2 := List.forall_mem_cons.mpr ⟨no_X10_9, List.forall_mem_cons.mpr ⟨no_X10_16, List.forall_mem_cons.mpr ⟨no_X10_23, List.forall_mem_cons.mpr ⟨no_X10_30, List.forall_mem_cons.mpr ⟨no_X10_61, List.forall_mem_cons.mpr ⟨no_X10_103, List.forall_mem_cons.mpr ⟨no_X10_121, List.forall_mem_cons.mpr ⟨no_X10_162, fun _ h => absurd h List.not_mem_nil⟩⟩⟩⟩⟩⟩⟩⟩
def anl_X10 : List (Nat × Nat) := []
theorem ano_X10 : ∀ q ∈ anl_X10, zk_AN RX10 q.1 q.2 := fun _ h => absurd h List.not_mem_nil
def kcl_X10 : List (Nat × Value) := [(280, .long (2663)), (302, .long (31))]
theorem kco_X10 : ∀ q ∈ kcl_X10, (∀ x, q.2 = .int x → Cond.constant RX10 q.1 x ∈ zk_WS) ∧ (∀ x, q.2 = .long x → Cond.constantLong RX10 q.1 x ∈ zk_WS) := List.forall_mem_cons.mpr ⟨zk_k2 (zk_wi 370 (by decide +kernel) rfl), List.forall_mem_cons.mpr ⟨zk_k2 (zk_wi 378 (by decide +kernel) rfl), fun _ h => absurd h List.not_mem_nil⟩⟩
def tb_X10 : zk_Tb := (zk_lka gfl_X10, zk_lka pfl_X10, zk_lka nwl_X10, zk_lka anl_X10, zk_lka kcl_X10)
theorem tbo_X10 {isI : Prop} : zk_TB RX10 isI tb_X10 := ⟨fun i cs k h => gfo_X10 _ (zk_lka_mem h), fun i cs k tag h2 => pfo_X10 _ (zk_lka_mem h2), fun i ci h => nwo_X10 _ (zk_lka_mem h), fun i k h => ano_X10 _ (zk_lka_mem h), fun i v h => kco_X10 _ (zk_lka_mem h)⟩
def tbi_X10 : zk_Tb := (zk_lka gfl_X10, zk_lka pfil_X10, zk_lka nwl_X10, zk_lka anl_X10, zk_lka kcl_X10)
theorem tbio_X10 {isI : Prop} (h : isI) : zk_TB RX10 isI tbi_X10 := ⟨fun i cs k h => gfo_X10 _ (zk_lka_mem h), fun i cs k tag h2 => pfio_X10 h _ (zk_lka_mem h2), fun i ci h => nwo_X10 _ (zk_lka_mem h), fun i k h => ano_X10 _ (zk_lka_mem h), fun i v h => kco_X10 _ (zk_lka_mem h)⟩
theorem fo_X11_10_10 : zk_FO RX11 10 10 0 := ⟨RX11, TX11, 12, "ClerestoryPlanLaw$House", rfl, by decide, iw_X11, zk_wi 575 (by decide +kernel) rfl, Or.inl rfl⟩
theorem fpi_X11_10_10 {isI : Prop} (h : isI) : zk_FP RX11 isI 10 10 0 2 := zk_FO_FP fo_X11_10_10 (Cn := RX11) (T := TX11) (N := 12) rfl (Or.inr ⟨rfl, h, rfl⟩) tyX11_ok nmX11 rfl
theorem fo_X11_18_10 : zk_FO RX11 18 10 4 := ⟨RX11, TX11, 12, "ClerestoryPlanLaw$House", rfl, by decide, iw_X11, zk_wi 581 (by decide +kernel) rfl, Or.inl rfl⟩
theorem fpi_X11_18_10 {isI : Prop} (h : isI) : zk_FP RX11 isI 18 10 4 2 := zk_FO_FP fo_X11_18_10 (Cn := RX11) (T := TX11) (N := 12) rfl (Or.inr ⟨rfl, h, rfl⟩) tyX11_ok nmX11 rfl
theorem fo_X11_22_10 : zk_FO RX11 22 10 6 := ⟨RX11, TX11, 12, "ClerestoryPlanLaw$House", rfl, by decide, iw_X11, zk_wi 585 (by decide +kernel) rfl, Or.inl rfl⟩
theorem fpi_X11_22_10 {isI : Prop} (h : isI) : zk_FP RX11 isI 22 10 6 2 := zk_FO_FP fo_X11_22_10 (Cn := RX11) (T := TX11) (N := 12) rfl (Or.inr ⟨rfl, h, rfl⟩) tyX11_ok nmX11 rfl
theorem fo_X11_25_10 : zk_FO RX11 25 10 8 := ⟨RX11, TX11, 12, "ClerestoryPlanLaw$House", rfl, by decide, iw_X11, zk_wi 588 (by decide +kernel) rfl, Or.inl rfl⟩
theorem fpi_X11_25_10 {isI : Prop} (h : isI) : zk_FP RX11 isI 25 10 8 2 := zk_FO_FP fo_X11_25_10 (Cn := RX11) (T := TX11) (N := 12) rfl (Or.inr ⟨rfl, h, rfl⟩) tyX11_ok nmX11 rfl
theorem fo_X11_28_10 : zk_FO RX11 28 10 10 := ⟨RX11, TX11, 12, "ClerestoryPlanLaw$House", rfl, by decide, iw_X11, zk_wi 590 (by decide +kernel) rfl, Or.inl rfl⟩
theorem fpi_X11_28_10 {isI : Prop} (h : isI) : zk_FP RX11 isI 28 10 10 2 := zk_FO_FP fo_X11_28_10 (Cn := RX11) (T := TX11) (N := 12) rfl (Or.inr ⟨rfl, h, rfl⟩) tyX11_ok nmX11 rfl
theorem fo_X11_31_10 : zk_FO RX11 31 10 11 := ⟨RX11, TX11, 12, "ClerestoryPlanLaw$House", rfl, by decide, iw_X11, zk_wi 591 (by decide +kernel) rfl, Or.inl rfl⟩
theorem fpi_X11_31_10 {isI : Prop} (h : isI) : zk_FP RX11 isI 31 10 11 2 := zk_FO_FP fo_X11_31_10 (Cn := RX11) (T := TX11) (N := 12) rfl (Or.inr ⟨rfl, h, rfl⟩) tyX11_ok nmX11 rfl
theorem fo_X11_34_10 : zk_FO RX11 34 10 1 := ⟨RX11, TX11, 12, "ClerestoryPlanLaw$House", rfl, by decide, iw_X11, zk_wi 577 (by decide +kernel) rfl, Or.inl rfl⟩
theorem fpi_X11_34_10 {isI : Prop} (h : isI) : zk_FP RX11 isI 34 10 1 2 := zk_FO_FP fo_X11_34_10 (Cn := RX11) (T := TX11) (N := 12) rfl (Or.inr ⟨rfl, h, rfl⟩) tyX11_ok nmX11 rfl
theorem fo_X11_37_10 : zk_FO RX11 37 10 2 := ⟨RX11, TX11, 12, "ClerestoryPlanLaw$House", rfl, by decide, iw_X11, zk_wi 578 (by decide +kernel) rfl, Or.inl rfl⟩
theorem fp_X11_37_10 {isI : Prop} : zk_FP RX11 isI 37 10 2 0 := zk_FO_FP fo_X11_37_10 (Cn := RX11) (T := TX11) (N := 12) rfl (Or.inl rfl) tyX11_ok nmX11 rfl
theorem fpi_X11_37_10 {isI : Prop} (h : isI) : zk_FP RX11 isI 37 10 2 0 := zk_FO_FP fo_X11_37_10 (Cn := RX11) (T := TX11) (N := 12) rfl (Or.inl rfl) tyX11_ok nmX11 rfl
theorem fo_X11_51_10 : zk_FO RX11 51 10 3 := ⟨RX11, TX11, 12, "ClerestoryPlanLaw$House", rfl, by decide, iw_X11, zk_wi 579 (by decide +kernel) rfl, Or.inl rfl⟩
theorem fp_X11_51_10 {isI : Prop} : zk_FP RX11 isI 51 10 3 0 := zk_FO_FP fo_X11_51_10 (Cn := RX11) (T := TX11) (N := 12) rfl (Or.inl rfl) tyX11_ok nmX11 rfl
theorem fo_X11_85_10 : zk_FO RX11 85 10 5 := ⟨RX11, TX11, 12, "ClerestoryPlanLaw$House", rfl, by decide, iw_X11, zk_wi 584 (by decide +kernel) rfl, Or.inl rfl⟩
theorem fp_X11_85_10 {isI : Prop} : zk_FP RX11 isI 85 10 5 0 := zk_FO_FP fo_X11_85_10 (Cn := RX11) (T := TX11) (N := 12) rfl (Or.inl rfl) tyX11_ok nmX11 rfl
theorem fo_X11_92_10 : zk_FO RX11 92 10 7 := ⟨RX11, TX11, 12, "ClerestoryPlanLaw$House", rfl, by decide, iw_X11, zk_wi 587 (by decide +kernel) rfl, Or.inl rfl⟩
theorem fo_X11_129_10 : zk_FO RX11 129 10 9 := ⟨RX11, TX11, 12, "ClerestoryPlanLaw$House", rfl, by decide, iw_X11, zk_wi 589 (by decide +kernel) rfl, Or.inl rfl⟩
theorem fp_X11_129_10 {isI : Prop} : zk_FP RX11 isI 129 10 9 0 := zk_FO_FP fo_X11_129_10 (Cn := RX11) (T := TX11) (N := 12) rfl (Or.inl rfl) tyX11_ok nmX11 rfl
def gfl_X11 : List (Nat × (List Nat × Nat)) := [(10, ([10], 0)), (18, ([10], 4)), (22, ([10], 6)), (25, ([10], 8)), (28, ([10], 10)), (34, ([10], 1)), (37, ([10], 2)), (51, ([10], 3)), (85, ([10], 5)), (92, ([10], 7)), (129, ([10], 9))]
theorem gfo_X11 : ∀ q ∈ gfl_X11, ∀ ci ∈ q.2.1, zk_FO RX11 q.1 ci q.2.2 := List.forall_mem_cons.mpr ⟨List.forall_mem_cons.mpr ⟨fo_X11_10_10, fun _ h => absurd h List.not_mem_nil⟩, List.forall_mem_cons.mpr ⟨List.forall_mem_cons.mpr ⟨fo_X11_18_10, fun _ h => absurd h List.not_mem_nil⟩, List.forall_mem_cons.mpr ⟨List.forall_mem_cons.mpr ⟨fo_X11_22_10, fun _ h => absurd h List.not_mem_nil⟩, List.forall_mem_cons.mpr ⟨List.forall_mem_cons.mpr ⟨fo_X11_25_10, fun _ h => absurd h List.not_mem_nil⟩, List.forall_mem_cons.mpr ⟨List.forall_mem_cons.mpr ⟨fo_X11_28_10, fun _ h => absurd h List.not_mem_nil⟩, List.forall_mem_cons.mpr ⟨List.forall_mem_cons.mpr ⟨fo_X11_34_10, fun _ h => absurd h List.not_mem_nil⟩, List.forall_mem_cons.mpr ⟨List.forall_mem_cons.mpr ⟨fo_X11_37_10, fun _ h => absurd h List.not_mem_nil⟩, List.forall_mem_cons.mpr ⟨List.forall_mem_cons.mpr ⟨fo_X11_51_10, fun _ h => absurd h List.not_mem_nil⟩, List.forall_mem_cons.mpr ⟨List.forall_mem_cons.mpr ⟨fo_X11_85_10, fun _ h => absurd h List.not_mem_nil⟩, List.forall_mem_cons.mpr ⟨List.forall_mem_cons.mpr ⟨fo_X11_92_10, fun _ h => absurd h List.not_mem_nil⟩, List.forall_mem_cons.mpr ⟨List.forall_mem_cons.mpr ⟨fo_X11_129_10, fun _ h => absurd h List.not_mem_nil⟩, fun _ h => absurd h List.not_mem_nil⟩⟩⟩⟩⟩⟩⟩⟩⟩⟩⟩
def pfl_X11 : List (Nat × (List Nat × Nat × Nat)) := [(37, ([10], 2, 0)), (51, ([10], 3, 0)), (85, ([10], 5, 0)), (129, ([10], 9, 0))]
theorem pfo_X11 {isI : Prop} : ∀ q ∈ pfl_X11, ∀ ci ∈ q.2.1, zk_FP RX11 isI q.1 ci q.2.2.1 q.2.2.2 := List.forall_mem_cons.mpr ⟨List.forall_mem_cons.mpr ⟨fp_X11_37_10, fun _ h => absurd h List.not_mem_nil⟩, List.forall_mem_cons.mpr ⟨List.forall_mem_cons.mpr ⟨fp_X11_51_10, fun _ h => absurd h List.not_mem_nil⟩, List.forall_mem_cons.mpr ⟨List.forall_mem_cons.mpr ⟨fp_X11_85_10, fun _ h => absurd h List.not_mem_nil⟩, List.forall_mem_cons.mpr ⟨List.forall_mem_cons.mpr ⟨fp_X11_129_10, fun _ h => absurd h List.not_mem_nil⟩, fun _ h => absurd h List.not_mem_nil⟩⟩⟩⟩
def pfil_X11 : List (Nat × (List Nat × Nat × Nat)) := [(10, ([10], 0, 2)), (18, ([10], 4, 2)), (22, ([10], 6, 2)), (25, ([10], 8, 2)), (28, ([10], 10, 2)), (31, ([10], 11, 2)), (34, ([10], 1, 2)), (37, ([10], 2, 0))]
theorem pfio_X11 {isI : Prop} (h : isI) : ∀ q ∈ pfil_X11, ∀ ci ∈ q.2.1, zk_FP RX11 isI q.1 ci q.2.2.1 q.2.2.2 := List.forall_mem_cons.mpr ⟨List.forall_mem_cons.mpr ⟨fpi_X11_10_10 h, fun _ h => absurd h List.not_mem_nil⟩, List.forall_mem_cons.mpr ⟨List.forall_mem_cons.mpr ⟨fpi_X11_18_10 h, fun _ h => absurd h List.not_mem_nil⟩, List.forall_mem_cons.mpr ⟨List.forall_mem_cons.mpr ⟨fpi_X11_22_10 h, fun _ h => absurd h List.not_mem_nil⟩, List.forall_mem_cons.mpr ⟨List.forall_mem_cons.mpr ⟨fpi_X11_25_10 h, fun _ h => absurd h List.not_mem_nil⟩, List.forall_mem_cons.mpr ⟨List.forall_mem_cons.mpr ⟨fpi_X11_28_10 h, fun _ h => absurd h List.not_mem_nil⟩, List.forall_mem_cons.mpr ⟨List.forall_mem_cons.mpr ⟨fpi_X11_31_10 h, fun _ h => absurd h List.not_mem_nil⟩, List.forall_mem_cons.mpr ⟨List.forall_mem_cons.mpr ⟨fpi_X11_34_10 h, fun _ h => absurd h List.not_mem_nil⟩, List.forall_mem_cons.mpr ⟨List.forall_mem_cons.mpr ⟨fpi_X11_37_10 h, fun _ h => absurd h List.not_mem_nil⟩, fun _ h => absurd h List.not_mem_nil⟩⟩⟩⟩⟩⟩⟩⟩
theorem no_X11_7 : zk_NO RX11 7 9 := ⟨RX10, TX10, 5, rfl, iw_X10, zk_wi 415 (by decide +kernel) rfl, zk_wi 26 (by decide +kernel) rfl, zk_wi 2 (by decide +kernel) rfl, rfl, tyX10_ok, by decide⟩
def nwl_X11 : List (Nat × Nat) := [(7, 9)]
theorem nwo_X11 : ∀ q ∈ nwl_X11, zk_NO RX11 q.1 q.2 := List.forall_mem_cons.mpr ⟨no_X11_7, fun _ h => absurd h List.not_mem_nil⟩
theorem an_X11_16 : zk_AN RX11 16 7 := Or.inl ⟨rfl, (zk_wi 573 (by decide +kernel) rfl : Cond.classLink RX11 16 "[I" ∈ zk_WS)⟩
def anl_X11 : List (Nat × Nat) := [(16, 7)]
theorem ano_X11 : ∀ q ∈ anl_X11, zk_AN RX11 q.1 q.2 := List.forall_mem_cons.mpr ⟨an_X11_16, fun _ h => absurd h List.not_mem_nil⟩
def kcl_X11 : List (Nat × Value) := []
theorem kco_X11 : ∀ q ∈ kcl_X11, (∀ x, q.2 = .int x → Cond.constant RX11 q.1 x ∈ zk_WS) ∧ (∀ x, q.2 = .long x → Cond.constantLong RX11 q.1 x ∈ zk_WS) := fun _ h => absurd h List.not_mem_nil
def tb_X11 : zk_Tb := (zk_lka gfl_X11, zk_lka pfl_X11, zk_lka nwl_X11, zk_lka anl_X11, zk_lka kcl_X11)
theorem tbo_X11 {isI : Prop} : zk_TB RX11 isI tb_X11 := ⟨fun i cs k h => gfo_X11 _ (zk_lka_mem h), fun i cs k tag h2 => pfo_X11 _ (zk_lka_mem h2), fun i ci h => nwo_X11 _ (zk_lka_mem h), fun i k h => ano_X11 _ (zk_lka_mem h), fun i v h => kco_X11 _ (zk_lka_mem h)⟩
def tbi_X11 : zk_Tb := (zk_lka gfl_X11, zk_lka pfil_X11, zk_lka nwl_X11, zk_lka anl_X11, zk_lka kcl_X11)
theorem tbio_X11 {isI : Prop} (h : isI) : zk_TB RX11 isI tbi_X11 := ⟨fun i cs k h => gfo_X11 _ (zk_lka_mem h), fun i cs k tag h2 => pfio_X11 h _ (zk_lka_mem h2), fun i ci h => nwo_X11 _ (zk_lka_mem h), fun i k h => ano_X11 _ (zk_lka_mem h), fun i v h => kco_X11 _ (zk_lka_mem h)⟩
theorem fo_L_14_10 : zk_FO RL 14 10 0 := ⟨RX11, TX11, 12, "ClerestoryPlanLaw$House", rfl, by decide, iw_X11, zk_wi 576 (by decide +kernel) rfl, Or.inl rfl⟩
theorem fo_L_40_10 : zk_FO RL 40 10 3 := ⟨RX11, TX11, 12, "ClerestoryPlanLaw$House", rfl, by decide, iw_X11, zk_wi 580 (by decide +kernel) rfl, Or.inl rfl⟩
theorem fo_L_48_10 : zk_FO RL 48 10 4 := ⟨RX11, TX11, 12, "ClerestoryPlanLaw$House", rfl, by decide, iw_X11, zk_wi 582 (by decide +kernel) rfl, Or.inl rfl⟩
theorem fo_L_74_10 : zk_FO RL 74 10 6 := ⟨RX11, TX11, 12, "ClerestoryPlanLaw$House", rfl, by decide, iw_X11, zk_wi 586 (by decide +kernel) rfl, Or.inl rfl⟩
theorem fo_L_108_10 : zk_FO RL 108 10 5 := ⟨RX11, TX11, 12, "ClerestoryPlanLaw$House", rfl, by decide, iw_X11, zk_wi 583 (by decide +kernel) rfl, Or.inl rfl⟩
def gfl_L : List (Nat × (List Nat × Nat)) := [(14, ([10], 0)), (40, ([10], 3)), (48, ([10], 4)), (74, ([10], 6)), (108, ([10], 5))]
theorem gfo_L : ∀ q ∈ gfl_L, ∀ ci ∈ q.2.1, zk_FO RL q.1 ci q.2.2 := List.forall_mem_cons.mpr ⟨List.forall_mem_cons.mpr ⟨fo_L_14_10, fun _ h => absurd h List.not_mem_nil⟩, List.forall_mem_cons.mpr ⟨List.forall_mem_cons.mpr ⟨fo_L_40_10, fun _ h => absurd h List.not_mem_nil⟩, List.forall_mem_cons.mpr ⟨List.forall_mem_cons.mpr ⟨fo_L_48_10, fun _ h => absurd h List.not_mem_nil⟩, List.forall_mem_cons.mpr ⟨List.forall_mem_cons.mpr ⟨fo_L_74_10, fun _ h => absurd h List.not_mem_nil⟩, List.forall_mem_cons.mpr ⟨List.forall_mem_cons.mpr ⟨fo_L_108_10, fun _ h => absurd h List.not_mem_nil⟩, fun _ h => absurd h List.not_mem_nil⟩⟩⟩⟩⟩
def pfl_L : List (Nat × (List Nat × Nat × Nat)) := []
theorem pfo_L {isI : Prop} : ∀ q ∈ pfl_L, ∀ ci ∈ q.2.1, zk_FP RL isI q.1 ci q.2.2.1 q.2.2.2 := fun _ h => absurd h List.not_mem_nil
def pfil_L : List (Nat × (List Nat × Nat × Nat)) := []
theorem pfio_L {isI : Prop} (h : isI) : ∀ q ∈ pfil_L, ∀ ci ∈ q.2.1, zk_FP RL isI q.1 ci q.2.2.1 q.2.2.2 := fun _ h => absurd h List.not_mem_nil
theorem no_L_9 : zk_NO RL 9 10 := ⟨RX11, TX11, 12, rfl, iw_X11, zk_wi 409 (by decide +kernel) rfl, zk_wi 410 (by decide +kernel) rfl, zk_wi 1 (by decide +kernel) rfl, rfl, tyX11_ok, by decide⟩
def nwl_L : List (Nat × Nat) := [(9, 10)]
theorem nwo_L : ∀ q ∈ nwl_L, zk_NO RL q.1 q.2 := List.forall_mem_cons.mpr ⟨no_L_9, fun _ h => absurd h List.not_mem_nil⟩
def anl_L : List (Nat × Nat) := []
theorem ano_L : ∀ q ∈ anl_L, zk_AN RL q.1 q.2 := fun _ h => absurd h List.not_mem_nil
def kcl_L : List (Nat × Value) := [(7, .int (2147483647)), (8, .int (790386105))]
theorem kco_L : ∀ q ∈ kcl_L, (∀ x, q.2 = .int x → Cond.constant RL q.1 x ∈ zk_WS) ∧ (∀ x, q.2 = .long x → Cond.constantLong RL q.1 x ∈ zk_WS) := List.forall_mem_cons.mpr ⟨zk_k1 (zk_wi 628 (by decide +kernel) rfl), List.forall_mem_cons.mpr ⟨zk_k1 (zk_wi 624 (by decide +kernel) rfl), fun _ h => absurd h List.not_mem_nil⟩⟩
def tb_L : zk_Tb := (zk_lka gfl_L, zk_lka pfl_L, zk_lka nwl_L, zk_lka anl_L, zk_lka kcl_L)
theorem tbo_L {isI : Prop} : zk_TB RL isI tb_L := ⟨fun i cs k h => gfo_L _ (zk_lka_mem h), fun i cs k tag h2 => pfo_L _ (zk_lka_mem h2), fun i ci h => nwo_L _ (zk_lka_mem h), fun i k h => ano_L _ (zk_lka_mem h), fun i v h => kco_L _ (zk_lka_mem h)⟩
def tbi_L : zk_Tb := (zk_lka gfl_L, zk_lka pfil_L, zk_lka nwl_L, zk_lka anl_L, zk_lka kcl_L)
theorem tbio_L {isI : Prop} (h : isI) : zk_TB RL isI tbi_L := ⟨fun i cs k h => gfo_L _ (zk_lka_mem h), fun i cs k tag h2 => pfio_L h _ (zk_lka_mem h2), fun i ci h => nwo_L _ (zk_lka_mem h), fun i k h => ano_L _ (zk_lka_mem h), fun i v h => kco_L _ (zk_lka_mem h)⟩
