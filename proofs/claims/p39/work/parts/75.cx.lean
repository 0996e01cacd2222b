/-! the class: meanWay, canBeJoined, mostIn, mostPeople -/
def r_can (O : zk_Hp) (a : Nat) (b : Option Nat) : Bool := match b with
  | none => decide (fI (O a) 1 = 0)
  | some p => decide (¬ p = a ∧ fI (O p) 1 = fI (O a) 1)
def sp_X10_canBeJoined (E : zk_E) : zk_Sp zk_S := fun av σ sz P PX => match av with
  | [.ref a, o] => E.1 + 28 ≤ a ∧ isR (σ.2.2.2.1 a) ∧ ∃ b, o = va_rf b ∧ (∀ p, b = some p → E.1 + 28 ≤ p ∧ isR (σ.2.2.2.1 p)) ∧ P (some (.int (zk_b (r_can σ.2.2.2.1 a b)))) σ sz
  | _ => False
theorem spe_X10_canBeJoined (E : zk_E) (a : Nat) (o : Value) (σ : zk_S) (sz : Nat) (P : zk_P zk_S) (PX : zk_X zk_S) : sp_X10_canBeJoined E [.ref a, o] σ sz P PX = (E.1 + 28 ≤ a ∧ isR (σ.2.2.2.1 a) ∧ ∃ b, o = va_rf b ∧ (∀ p, b = some p → E.1 + 28 ≤ p ∧ isR (σ.2.2.2.1 p)) ∧ P (some (.int (zk_b (r_can σ.2.2.2.1 a b)))) σ sz) := propext Iff.rfl
def C_X10_canBeJoined (E : zk_E) : zk_Cl zk_S := zk_lka []
theorem r_X10_canBeJoined (E : zk_E) (P : zk_P zk_S) (PX : zk_X zk_S) (K : Nat → zk_L → List Value → zk_W zk_S → Prop) : (∀ (n : Nat) (l0 : Option Value) (y1 : Value) (r : List Value) (σ : zk_S) (sz k c : Nat), zk_run E (zk_VT E) M_X10_canBeJoined (C_X10_canBeJoined E) P PX K (n + 1) 0 [l0, some y1] r (σ, sz, k, c) = (zk_isr y1 ∧ zk_run E (zk_VT E) M_X10_canBeJoined (C_X10_canBeJoined E) P PX K n 1 [l0, some y1] (y1 :: r) (σ, sz, k, c))) ∧
  (∀ (n : Nat) (l0 l1 : Option Value) (v : Value) (r : List Value) (σ : zk_S) (sz k c : Nat), zk_run E (zk_VT E) M_X10_canBeJoined (C_X10_canBeJoined E) P PX K (n + 1) 1 [l0, l1] (v :: r) (σ, sz, k, c) = (zk_isr v ∧ (¬ v = .null → zk_run E (zk_VT E) M_X10_canBeJoined (C_X10_canBeJoined E) P PX K n 17 [l0, l1] r (σ, sz, k, c)) ∧ (¬ (¬ v = .null) → zk_run E (zk_VT E) M_X10_canBeJoined (C_X10_canBeJoined E) P PX K n 4 [l0, l1] r (σ, sz, k, c)))) ∧
  (∀ (n : Nat) (l1 : Option Value) (y0 : Value) (r : List Value) (σ : zk_S) (sz k c : Nat), zk_run E (zk_VT E) M_X10_canBeJoined (C_X10_canBeJoined E) P PX K (n + 1) 4 [some y0, l1] r (σ, sz, k, c) = (zk_isr y0 ∧ zk_run E (zk_VT E) M_X10_canBeJoined (C_X10_canBeJoined E) P PX K n 5 [some y0, l1] (y0 :: r) (σ, sz, k, c))) ∧
  (∀ (n : Nat) (l0 l1 : Option Value) (a : Nat) (r : List Value) (σ : zk_S) (sz k c : Nat), zk_run E (zk_VT E) M_X10_canBeJoined (C_X10_canBeJoined E) P PX K (n + 1) 5 [l0, l1] (.ref a :: r) (σ, sz, k, c) = zk_fld (zk_view E σ a) [5] 1 (fun v => zk_run E (zk_VT E) M_X10_canBeJoined (C_X10_canBeJoined E) P PX K n 8 [l0, l1] (v :: r) (σ, sz, k, c))) ∧
  (∀ (n : Nat) (l0 l1 : Option Value) (x : Int32) (r : List Value) (σ : zk_S) (sz k c : Nat), zk_run E (zk_VT E) M_X10_canBeJoined (C_X10_canBeJoined E) P PX K (n + 1) 8 [l0, l1] (.int x :: r) (σ, sz, k, c) = ((¬ x = 0 → zk_run E (zk_VT E) M_X10_canBeJoined (C_X10_canBeJoined E) P PX K n 15 [l0, l1] r (σ, sz, k, c)) ∧ (¬ (¬ x = 0) → zk_run E (zk_VT E) M_X10_canBeJoined (C_X10_canBeJoined E) P PX K n 11 [l0, l1] r (σ, sz, k, c)))) ∧
  (∀ (n : Nat) (l0 l1 : Option Value)  (r : List Value) (σ : zk_S) (sz k c : Nat), zk_run E (zk_VT E) M_X10_canBeJoined (C_X10_canBeJoined E) P PX K (n + 1) 11 [l0, l1] r (σ, sz, k, c) = zk_run E (zk_VT E) M_X10_canBeJoined (C_X10_canBeJoined E) P PX K n 12 [l0, l1] (.int (1) :: r) (σ, sz, k, c)) ∧
  (∀ (n : Nat) (l0 l1 : Option Value)  (r : List Value) (σ : zk_S) (sz k c : Nat), zk_run E (zk_VT E) M_X10_canBeJoined (C_X10_canBeJoined E) P PX K (n + 1) 12 [l0, l1] r (σ, sz, k, c) = zk_run E (zk_VT E) M_X10_canBeJoined (C_X10_canBeJoined E) P PX K n 16 [l0, l1] r (σ, sz, k, c)) ∧
  (∀ (n : Nat) (l0 l1 : Option Value)  (r : List Value) (σ : zk_S) (sz k c : Nat), zk_run E (zk_VT E) M_X10_canBeJoined (C_X10_canBeJoined E) P PX K (n + 1) 15 [l0, l1] r (σ, sz, k, c) = zk_run E (zk_VT E) M_X10_canBeJoined (C_X10_canBeJoined E) P PX K n 16 [l0, l1] (.int (0) :: r) (σ, sz, k, c)) ∧
  (∀ (n : Nat) (l0 l1 : Option Value) (x : Int32)  (σ : zk_S) (sz k c : Nat), zk_run E (zk_VT E) M_X10_canBeJoined (C_X10_canBeJoined E) P PX K (n + 1) 16 [l0, l1] [.int x] (σ, sz, k, c) = (zk_nok (some (.boolean)) x ∧ P (some (.int x)) σ sz ∧ k ≤ 0 ∧ c ≤ 0)) ∧
  (∀ (n : Nat) (l0 : Option Value) (y1 : Value) (r : List Value) (σ : zk_S) (sz k c : Nat), zk_run E (zk_VT E) M_X10_canBeJoined (C_X10_canBeJoined E) P PX K (n + 1) 17 [l0, some y1] r (σ, sz, k, c) = (zk_isr y1 ∧ zk_run E (zk_VT E) M_X10_canBeJoined (C_X10_canBeJoined E) P PX K n 18 [l0, some y1] (y1 :: r) (σ, sz, k, c))) ∧
  (∀ (n : Nat) (l1 : Option Value) (y0 : Value) (r : List Value) (σ : zk_S) (sz k c : Nat), zk_run E (zk_VT E) M_X10_canBeJoined (C_X10_canBeJoined E) P PX K (n + 1) 18 [some y0, l1] r (σ, sz, k, c) = (zk_isr y0 ∧ zk_run E (zk_VT E) M_X10_canBeJoined (C_X10_canBeJoined E) P PX K n 19 [some y0, l1] (y0 :: r) (σ, sz, k, c))) ∧
  (∀ (n : Nat) (l0 l1 : Option Value) (x y : Value) (r : List Value) (σ : zk_S) (sz k c : Nat), zk_run E (zk_VT E) M_X10_canBeJoined (C_X10_canBeJoined E) P PX K (n + 1) 19 [l0, l1] (y :: x :: r) (σ, sz, k, c) = (zk_isr x ∧ zk_isr y ∧ (x = y → zk_run E (zk_VT E) M_X10_canBeJoined (C_X10_canBeJoined E) P PX K n 37 [l0, l1] r (σ, sz, k, c)) ∧ (¬ (x = y) → zk_run E (zk_VT E) M_X10_canBeJoined (C_X10_canBeJoined E) P PX K n 22 [l0, l1] r (σ, sz, k, c)))) ∧
  (∀ (n : Nat) (l0 : Option Value) (y1 : Value) (r : List Value) (σ : zk_S) (sz k c : Nat), zk_run E (zk_VT E) M_X10_canBeJoined (C_X10_canBeJoined E) P PX K (n + 1) 22 [l0, some y1] r (σ, sz, k, c) = (zk_isr y1 ∧ zk_run E (zk_VT E) M_X10_canBeJoined (C_X10_canBeJoined E) P PX K n 23 [l0, some y1] (y1 :: r) (σ, sz, k, c))) ∧
  (∀ (n : Nat) (l0 l1 : Option Value) (a : Nat) (r : List Value) (σ : zk_S) (sz k c : Nat), zk_run E (zk_VT E) M_X10_canBeJoined (C_X10_canBeJoined E) P PX K (n + 1) 23 [l0, l1] (.ref a :: r) (σ, sz, k, c) = zk_fld (zk_view E σ a) [5] 1 (fun v => zk_run E (zk_VT E) M_X10_canBeJoined (C_X10_canBeJoined E) P PX K n 26 [l0, l1] (v :: r) (σ, sz, k, c))) ∧
  (∀ (n : Nat) (l1 : Option Value) (y0 : Value) (r : List Value) (σ : zk_S) (sz k c : Nat), zk_run E (zk_VT E) M_X10_canBeJoined (C_X10_canBeJoined E) P PX K (n + 1) 26 [some y0, l1] r (σ, sz, k, c) = (zk_isr y0 ∧ zk_run E (zk_VT E) M_X10_canBeJoined (C_X10_canBeJoined E) P PX K n 27 [some y0, l1] (y0 :: r) (σ, sz, k, c))) ∧
  (∀ (n : Nat) (l0 l1 : Option Value) (a : Nat) (r : List Value) (σ : zk_S) (sz k c : Nat), zk_run E (zk_VT E) M_X10_canBeJoined (C_X10_canBeJoined E) P PX K (n + 1) 27 [l0, l1] (.ref a :: r) (σ, sz, k, c) = zk_fld (zk_view E σ a) [5] 1 (fun v => zk_run E (zk_VT E) M_X10_canBeJoined (C_X10_canBeJoined E) P PX K n 30 [l0, l1] (v :: r) (σ, sz, k, c))) ∧
  (∀ (n : Nat) (l0 l1 : Option Value) (x y : Int32) (r : List Value) (σ : zk_S) (sz k c : Nat), zk_run E (zk_VT E) M_X10_canBeJoined (C_X10_canBeJoined E) P PX K (n + 1) 30 [l0, l1] (.int y :: .int x :: r) (σ, sz, k, c) = ((¬ x = y → zk_run E (zk_VT E) M_X10_canBeJoined (C_X10_canBeJoined E) P PX K n 37 [l0, l1] r (σ, sz, k, c)) ∧ (¬ (¬ x = y) → zk_run E (zk_VT E) M_X10_canBeJoined (C_X10_canBeJoined E) P PX K n 33 [l0, l1] r (σ, sz, k, c)))) ∧
  (∀ (n : Nat) (l0 l1 : Option Value)  (r : List Value) (σ : zk_S) (sz k c : Nat), zk_run E (zk_VT E) M_X10_canBeJoined (C_X10_canBeJoined E) P PX K (n + 1) 33 [l0, l1] r (σ, sz, k, c) = zk_run E (zk_VT E) M_X10_canBeJoined (C_X10_canBeJoined E) P PX K n 34 [l0, l1] (.int (1) :: r) (σ, sz, k, c)) ∧
  (∀ (n : Nat) (l0 l1 : Option Value)  (r : List Value) (σ : zk_S) (sz k c : Nat), zk_run E (zk_VT E) M_X10_canBeJoined (C_X10_canBeJoined E) P PX K (n + 1) 34 [l0, l1] r (σ, sz, k, c) = zk_run E (zk_VT E) M_X10_canBeJoined (C_X10_canBeJoined E) P PX K n 38 [l0, l1] r (σ, sz, k, c)) ∧
  (∀ (n : Nat) (l0 l1 : Option Value)  (r : List Value) (σ : zk_S) (sz k c : Nat), zk_run E (zk_VT E) M_X10_canBeJoined (C_X10_canBeJoined E) P PX K (n + 1) 37 [l0, l1] r (σ, sz, k, c) = zk_run E (zk_VT E) M_X10_canBeJoined (C_X10_canBeJoined E) P PX K n 38 [l0, l1] (.int (0) :: r) (σ, sz, k, c)) ∧
  (∀ (n : Nat) (l0 l1 : Option Value) (x : Int32)  (σ : zk_S) (sz k c : Nat), zk_run E (zk_VT E) M_X10_canBeJoined (C_X10_canBeJoined E) P PX K (n + 1) 38 [l0, l1] [.int x] (σ, sz, k, c) = (zk_nok (some (.boolean)) x ∧ P (some (.int x)) σ sz ∧ k ≤ 0 ∧ c ≤ 0)) ∧
  (∀ (n : Nat) (l0 l1 : Option Value) (r : List Value) (w : zk_W zk_S), zk_go E (zk_VT E) M_X10_canBeJoined (C_X10_canBeJoined E) P PX K n 0 [l0, l1] r w = zk_run E (zk_VT E) M_X10_canBeJoined (C_X10_canBeJoined E) P PX K (n + 1) 0 [l0, l1] r w) := ⟨by intros; rfl, by intros; rfl, by intros; rfl, by intros; rfl, by intros; rfl, by intros; rfl, by intros; rfl, by intros; rfl, by intros; rfl, by intros; rfl, by intros; rfl, by intros; rfl, by intros; rfl, by intros; rfl, by intros; rfl, by intros; rfl, by intros; rfl, by intros; rfl, by intros; rfl, by intros; rfl, by intros; rfl, by intros; rfl⟩
theorem vc_X10_canBeJoined (E : zk_E) : zk_VC E (zk_VT E) M_X10_canBeJoined (C_X10_canBeJoined E) 2 (sp_X10_canBeJoined E) := by
  intro av σ sz P PX h
  obtain ⟨J, N, Q, O, U⟩ := σ
  unfold sp_X10_canBeJoined at h
  split at h
  case h_2 => exact h.elim
  rename_i a o
  try dsimp only at h
  obtain ⟨ha, hR, b, rfl, hb, h⟩ := h
  obtain ⟨a0, a1, a2, a3, a4, a5, a6, a7, hO⟩ := hR
  have hO : O a = some (cR a0 a1 a2 a3 a4 a5 a6 a7) := hO
  have g1 : ∀ F : Value → Prop, zk_fld (O a) [5] 1 F = F (.int a1) := fun F => by rw [hO]; simp [zk_fld_o, cR, zk_nth]
  have f1 : fI (O a) 1 = a1 := by rw [hO]; rfl
  unfold r_can at h
  cases b with
  | none =>
    refine ⟨Nat.le_of_ble_eq_true rfl, fun G hG => ?_⟩
    change G 0 [some (.ref a), some .null] [] ((J, N, Q, O, U), sz, 0, 0)
    dsimp only at h
    rw [f1] at h
    by_cases q : a1 = 0
    · rw [decide_eq_true q] at h
      (refine hG 900 _ _ _ _ ?_; simp only [r_X10_canBeJoined, zk_kl_none, zk_kl_int, zk_kl_ref, zk_kl_null, zk_kl_long, zk_kl_rf, zk_isr_ref, zk_isr_null, zk_isr_rf9, zk_c1_int, zk_c1_ref, zk_c1_null, zk_c1_rf, zk_psh_some, zk_psh_none, zk_nok_int, zk_nok_bool0, zk_nok_bool1, zk_nok_b, zk_fok_0, zk_fok_1, zk_fok_2, zk_fok_n, zk_fok_rf, zb_f, zb_p, zb_i, zb_a, zb_s, zk_nth_0, zk_nth_s, zk_fld_o, zk_put_o, zk_rv_eq, zk_ri_eq, zk_is_o, List.mem_cons, List.not_mem_nil, or_false, false_or, or_true, true_or, and_true, true_and, not_false_iff, not_true_eq_false, true_implies, false_implies, imp_self, implies_true, forall_const, zk_lit, zk_uj_ap, zk_un_ap, zk_un_un, zk_uj_uj, Nat.reduceEqDiff, eq_self, zk_bq, Bool.true_or, Bool.false_or, Nat.le_refl, Nat.zero_add, Nat.add_zero, Nat.reduceAdd, Nat.reduceLeDiff, Nat.le_zero_eq, and_self, and_false, false_and, ite_true, ite_false, Nat.zero_le, List.length_cons, List.length_nil, Option.some.injEq, forall_eq', reduceCtorEq, zk_vd ha, g1, q])
      exact h
    · rw [decide_eq_false q] at h
      (refine hG 900 _ _ _ _ ?_; simp only [r_X10_canBeJoined, zk_kl_none, zk_kl_int, zk_kl_ref, zk_kl_null, zk_kl_long, zk_kl_rf, zk_isr_ref, zk_isr_null, zk_isr_rf9, zk_c1_int, zk_c1_ref, zk_c1_null, zk_c1_rf, zk_psh_some, zk_psh_none, zk_nok_int, zk_nok_bool0, zk_nok_bool1, zk_nok_b, zk_fok_0, zk_fok_1, zk_fok_2, zk_fok_n, zk_fok_rf, zb_f, zb_p, zb_i, zb_a, zb_s, zk_nth_0, zk_nth_s, zk_fld_o, zk_put_o, zk_rv_eq, zk_ri_eq, zk_is_o, List.mem_cons, List.not_mem_nil, or_false, false_or, or_true, true_or, and_true, true_and, not_false_iff, not_true_eq_false, true_implies, false_implies, imp_self, implies_true, forall_const, zk_lit, zk_uj_ap, zk_un_ap, zk_un_un, zk_uj_uj, Nat.reduceEqDiff, eq_self, zk_bq, Bool.true_or, Bool.false_or, Nat.le_refl, Nat.zero_add, Nat.add_zero, Nat.reduceAdd, Nat.reduceLeDiff, Nat.le_zero_eq, and_self, and_false, false_and, ite_true, ite_false, Nat.zero_le, List.length_cons, List.length_nil, Option.some.injEq, forall_eq', reduceCtorEq, zk_vd ha, g1, q])
      exact h
  | some p =>
    refine ⟨Nat.le_of_ble_eq_true rfl, fun G hG => ?_⟩
    change G 0 [some (.ref a), some (.ref p)] [] ((J, N, Q, O, U), sz, 0, 0)
    obtain ⟨hp, p0, p1, p2, p3, p4, p5, p6, p7, hOp⟩ := hb p rfl
    have hOp : O p = some (cR p0 p1 p2 p3 p4 p5 p6 p7) := hOp
    have g2 : ∀ F : Value → Prop, zk_fld (O p) [5] 1 F = F (.int p1) := fun F => by rw [hOp]; simp [zk_fld_o, cR, zk_nth]
    have f2 : fI (O p) 1 = p1 := by rw [hOp]; rfl
    have er : (Value.ref p = Value.ref a) = (p = a) := by simp
    dsimp only at h
    rw [f1, f2] at h
    by_cases q : p = a
    · rw [decide_eq_false (fun w => w.1 q)] at h
      (refine hG 900 _ _ _ _ ?_; simp only [r_X10_canBeJoined, zk_kl_none, zk_kl_int, zk_kl_ref, zk_kl_null, zk_kl_long, zk_kl_rf, zk_isr_ref, zk_isr_null, zk_isr_rf9, zk_c1_int, zk_c1_ref, zk_c1_null, zk_c1_rf, zk_psh_some, zk_psh_none, zk_nok_int, zk_nok_bool0, zk_nok_bool1, zk_nok_b, zk_fok_0, zk_fok_1, zk_fok_2, zk_fok_n, zk_fok_rf, zb_f, zb_p, zb_i, zb_a, zb_s, zk_nth_0, zk_nth_s, zk_fld_o, zk_put_o, zk_rv_eq, zk_ri_eq, zk_is_o, List.mem_cons, List.not_mem_nil, or_false, false_or, or_true, true_or, and_true, true_and, not_false_iff, not_true_eq_false, true_implies, false_implies, imp_self, implies_true, forall_const, zk_lit, zk_uj_ap, zk_un_ap, zk_un_un, zk_uj_uj, Nat.reduceEqDiff, eq_self, zk_bq, Bool.true_or, Bool.false_or, Nat.le_refl, Nat.zero_add, Nat.add_zero, Nat.reduceAdd, Nat.reduceLeDiff, Nat.le_zero_eq, and_self, and_false, false_and, ite_true, ite_false, Nat.zero_le, List.length_cons, List.length_nil, Option.some.injEq, forall_eq', reduceCtorEq, zk_vd ha, g1, er, q])
      exact h
    · by_cases q2 : p1 = a1
      · rw [decide_eq_true ⟨q, q2⟩] at h
        (refine hG 900 _ _ _ _ ?_; simp only [r_X10_canBeJoined, zk_kl_none, zk_kl_int, zk_kl_ref, zk_kl_null, zk_kl_long, zk_kl_rf, zk_isr_ref, zk_isr_null, zk_isr_rf9, zk_c1_int, zk_c1_ref, zk_c1_null, zk_c1_rf, zk_psh_some, zk_psh_none, zk_nok_int, zk_nok_bool0, zk_nok_bool1, zk_nok_b, zk_fok_0, zk_fok_1, zk_fok_2, zk_fok_n, zk_fok_rf, zb_f, zb_p, zb_i, zb_a, zb_s, zk_nth_0, zk_nth_s, zk_fld_o, zk_put_o, zk_rv_eq, zk_ri_eq, zk_is_o, List.mem_cons, List.not_mem_nil, or_false, false_or, or_true, true_or, and_true, true_and, not_false_iff, not_true_eq_false, true_implies, false_implies, imp_self, implies_true, forall_const, zk_lit, zk_uj_ap, zk_un_ap, zk_un_un, zk_uj_uj, Nat.reduceEqDiff, eq_self, zk_bq, Bool.true_or, Bool.false_or, Nat.le_refl, Nat.zero_add, Nat.add_zero, Nat.reduceAdd, Nat.reduceLeDiff, Nat.le_zero_eq, and_self, and_false, false_and, ite_true, ite_false, Nat.zero_le, List.length_cons, List.length_nil, Option.some.injEq, forall_eq', reduceCtorEq, zk_vd ha, zk_vd hp, g1, g2, er, q, q2])
        exact h
      · rw [decide_eq_false (fun w => q2 w.2)] at h
        (refine hG 900 _ _ _ _ ?_; simp only [r_X10_canBeJoined, zk_kl_none, zk_kl_int, zk_kl_ref, zk_kl_null, zk_kl_long, zk_kl_rf, zk_isr_ref, zk_isr_null, zk_isr_rf9, zk_c1_int, zk_c1_ref, zk_c1_null, zk_c1_rf, zk_psh_some, zk_psh_none, zk_nok_int, zk_nok_bool0, zk_nok_bool1, zk_nok_b, zk_fok_0, zk_fok_1, zk_fok_2, zk_fok_n, zk_fok_rf, zb_f, zb_p, zb_i, zb_a, zb_s, zk_nth_0, zk_nth_s, zk_fld_o, zk_put_o, zk_rv_eq, zk_ri_eq, zk_is_o, List.mem_cons, List.not_mem_nil, or_false, false_or, or_true, true_or, and_true, true_and, not_false_iff, not_true_eq_false, true_implies, false_implies, imp_self, implies_true, forall_const, zk_lit, zk_uj_ap, zk_un_ap, zk_un_un, zk_uj_uj, Nat.reduceEqDiff, eq_self, zk_bq, Bool.true_or, Bool.false_or, Nat.le_refl, Nat.zero_add, Nat.add_zero, Nat.reduceAdd, Nat.reduceLeDiff, Nat.le_zero_eq, and_self, and_false, false_and, ite_true, ite_false, Nat.zero_le, List.length_cons, List.length_nil, Option.some.injEq, forall_eq', reduceCtorEq, zk_vd ha, zk_vd hp, g1, g2, er, q, q2])
        exact h
theorem ct_X10_canBeJoined {l : Launch} (hl : l.stackTraces = false) (E : zk_E) : zk_C l E (zk_VT E) yX10_canBeJoined cX10_canBeJoined 2 (some (.boolean)) rm_X10_canBeJoined (sp_X10_canBeJoined E) := by
  refine zk_meth (M := M_X10_canBeJoined) (C := C_X10_canBeJoined E) hl (by decide +kernel) rfl (fun _ _ => rfl) (zk_VT_ok E) MO_X10_canBeJoined TO_X10_canBeJoined THo_X10_canBeJoined ?_ (vc_X10_canBeJoined E)
  exact fun p e s m args below meth c X pc n mc ms sp2 h => absurd (zk_lka_mem h) List.not_mem_nil
def sp_X10_mostIn (E : zk_E) : zk_Sp zk_S := fun av σ sz P PX => match av with
  | [.ref a, .ref b] => a = zk_ad E 0 ∧ ∃ J N j, IC E sz σ J N ∧ MR J N j ∧ σ.2.2.1 2 j = some b ∧ P (some (.int (a_most J N j))) σ sz
  | _ => False
theorem spe_X10_mostIn (E : zk_E) (a : Nat) (b : Nat) (σ : zk_S) (sz : Nat) (P : zk_P zk_S) (PX : zk_X zk_S) : sp_X10_mostIn E [.ref a, .ref b] σ sz P PX = (a = zk_ad E 0 ∧ ∃ J N j, IC E sz σ J N ∧ MR J N j ∧ σ.2.2.1 2 j = some b ∧ P (some (.int (a_most J N j))) σ sz) := propext Iff.rfl
def C_X10_mostIn (E : zk_E) : zk_Cl zk_S := zk_lka [(39, 2, 0, 0, zk_rv (zk_VT E) (fun ci => Nat.beq ci 4) (sp_X5_countOpen E))]
theorem r_X10_mostIn (E : zk_E) (P : zk_P zk_S) (PX : zk_X zk_S) (K : Nat → zk_L → List Value → zk_W zk_S → Prop) : (∀ (n : Nat) (l0 l1 l2 l3 : Option Value)  (r : List Value) (σ : zk_S) (sz k c : Nat), zk_run E (zk_VT E) M_X10_mostIn (C_X10_mostIn E) P PX K (n + 1) 0 [l0, l1, l2, l3] r (σ, sz, k, c) = zk_run E (zk_VT E) M_X10_mostIn (C_X10_mostIn E) P PX K n 3 [l0, l1, l2, l3] (.int (200) :: r) (σ, sz, k, c)) ∧
  (∀ (n : Nat) (l0 l1 l2 l3 : Option Value) (x : Int32) (r : List Value) (σ : zk_S) (sz k c : Nat), zk_run E (zk_VT E) M_X10_mostIn (C_X10_mostIn E) P PX K (n + 1) 3 [l0, l1, l2, l3] (.int x :: r) (σ, sz, k, c) = zk_run E (zk_VT E) M_X10_mostIn (C_X10_mostIn E) P PX K n 4 [l0, zk_kl l1, some (.int x), l3] r (σ, sz, k, c)) ∧
  (∀ (n : Nat) (l1 l2 l3 : Option Value) (y0 : Value) (r : List Value) (σ : zk_S) (sz k c : Nat), zk_run E (zk_VT E) M_X10_mostIn (C_X10_mostIn E) P PX K (n + 1) 4 [some y0, l1, l2, l3] r (σ, sz, k, c) = (zk_isr y0 ∧ zk_run E (zk_VT E) M_X10_mostIn (C_X10_mostIn E) P PX K n 5 [some y0, l1, l2, l3] (y0 :: r) (σ, sz, k, c))) ∧
  (∀ (n : Nat) (l0 l1 l2 l3 : Option Value) (a : Nat) (r : List Value) (σ : zk_S) (sz k c : Nat), zk_run E (zk_VT E) M_X10_mostIn (C_X10_mostIn E) P PX K (n + 1) 5 [l0, l1, l2, l3] (.ref a :: r) (σ, sz, k, c) = zk_fld (zk_view E σ a) [9] 0 (fun v => zk_run E (zk_VT E) M_X10_mostIn (C_X10_mostIn E) P PX K n 8 [l0, l1, l2, l3] (v :: r) (σ, sz, k, c))) ∧
  (∀ (n : Nat) (l0 l1 l2 l3 : Option Value) (a : Nat) (r : List Value) (σ : zk_S) (sz k c : Nat), zk_run E (zk_VT E) M_X10_mostIn (C_X10_mostIn E) P PX K (n + 1) 8 [l0, l1, l2, l3] (.ref a :: r) (σ, sz, k, c) = zk_fld (zk_view E σ a) [4] 4 (fun v => zk_run E (zk_VT E) M_X10_mostIn (C_X10_mostIn E) P PX K n 11 [l0, l1, l2, l3] (v :: r) (σ, sz, k, c))) ∧
  (∀ (n : Nat) (l0 l1 l2 l3 : Option Value)  (r : List Value) (σ : zk_S) (sz k c : Nat), zk_run E (zk_VT E) M_X10_mostIn (C_X10_mostIn E) P PX K (n + 1) 11 [l0, l1, l2, l3] r (σ, sz, k, c) = zk_run E (zk_VT E) M_X10_mostIn (C_X10_mostIn E) P PX K n 12 [l0, l1, l2, l3] (.int (3) :: r) (σ, sz, k, c)) ∧
  (∀ (n : Nat) (l0 l1 l2 l3 : Option Value) (a : Nat) (i : Int32) (r : List Value) (σ : zk_S) (sz k c : Nat), zk_run E (zk_VT E) M_X10_mostIn (C_X10_mostIn E) P PX K (n + 1) 12 [l0, l1, l2, l3] (.int i :: .ref a :: r) (σ, sz, k, c) = zk_ild (zk_view E σ a) (zk_ar E 0) i (fun x => zk_run E (zk_VT E) M_X10_mostIn (C_X10_mostIn E) P PX K n 13 [l0, l1, l2, l3] (.int x :: r) (σ, sz, k, c))) ∧
  (∀ (n : Nat) (l0 l1 l2 l3 : Option Value) (x : Int32) (r : List Value) (σ : zk_S) (sz k c : Nat), zk_run E (zk_VT E) M_X10_mostIn (C_X10_mostIn E) P PX K (n + 1) 13 [l0, l1, l2, l3] (.int x :: r) (σ, sz, k, c) = zk_run E (zk_VT E) M_X10_mostIn (C_X10_mostIn E) P PX K n 14 [l0, l1, zk_kl l2, some (.int x)] r (σ, sz, k, c)) ∧
  (∀ (n : Nat) (l0 l1 l2 : Option Value) (y3 : Int32) (r : List Value) (σ : zk_S) (sz k c : Nat), zk_run E (zk_VT E) M_X10_mostIn (C_X10_mostIn E) P PX K (n + 1) 14 [l0, l1, l2, some (.int y3)] r (σ, sz, k, c) = zk_run E (zk_VT E) M_X10_mostIn (C_X10_mostIn E) P PX K n 15 [l0, l1, l2, some (.int y3)] (.int y3 :: r) (σ, sz, k, c)) ∧
  (∀ (n : Nat) (l0 l1 l2 l3 : Option Value) (x : Int32) (r : List Value) (σ : zk_S) (sz k c : Nat), zk_run E (zk_VT E) M_X10_mostIn (C_X10_mostIn E) P PX K (n + 1) 15 [l0, l1, l2, l3] (.int x :: r) (σ, sz, k, c) = ((x ≤ 0 → zk_run E (zk_VT E) M_X10_mostIn (C_X10_mostIn E) P PX K n 34 [l0, l1, l2, l3] r (σ, sz, k, c)) ∧ (¬ (x ≤ 0) → zk_run E (zk_VT E) M_X10_mostIn (C_X10_mostIn E) P PX K n 18 [l0, l1, l2, l3] r (σ, sz, k, c)))) ∧
  (∀ (n : Nat) (l0 l1 l3 : Option Value) (y2 : Int32) (r : List Value) (σ : zk_S) (sz k c : Nat), zk_run E (zk_VT E) M_X10_mostIn (C_X10_mostIn E) P PX K (n + 1) 18 [l0, l1, some (.int y2), l3] r (σ, sz, k, c) = zk_run E (zk_VT E) M_X10_mostIn (C_X10_mostIn E) P PX K n 19 [l0, l1, some (.int y2), l3] (.int y2 :: r) (σ, sz, k, c)) ∧
  (∀ (n : Nat) (l0 l2 l3 : Option Value) (y1 : Value) (r : List Value) (σ : zk_S) (sz k c : Nat), zk_run E (zk_VT E) M_X10_mostIn (C_X10_mostIn E) P PX K (n + 1) 19 [l0, some y1, l2, l3] r (σ, sz, k, c) = (zk_isr y1 ∧ zk_run E (zk_VT E) M_X10_mostIn (C_X10_mostIn E) P PX K n 20 [l0, some y1, l2, l3] (y1 :: r) (σ, sz, k, c))) ∧
  (∀ (n : Nat) (l0 l1 l2 l3 : Option Value) (a : Nat) (r : List Value) (σ : zk_S) (sz k c : Nat), zk_run E (zk_VT E) M_X10_mostIn (C_X10_mostIn E) P PX K (n + 1) 20 [l0, l1, l2, l3] (.ref a :: r) (σ, sz, k, c) = zk_fld (zk_view E σ a) [5] 4 (fun v => zk_run E (zk_VT E) M_X10_mostIn (C_X10_mostIn E) P PX K n 23 [l0, l1, l2, l3] (v :: r) (σ, sz, k, c))) ∧
  (∀ (n : Nat) (l0 l2 l3 : Option Value) (y1 : Value) (r : List Value) (σ : zk_S) (sz k c : Nat), zk_run E (zk_VT E) M_X10_mostIn (C_X10_mostIn E) P PX K (n + 1) 23 [l0, some y1, l2, l3] r (σ, sz, k, c) = (zk_isr y1 ∧ zk_run E (zk_VT E) M_X10_mostIn (C_X10_mostIn E) P PX K n 24 [l0, some y1, l2, l3] (y1 :: r) (σ, sz, k, c))) ∧
  (∀ (n : Nat) (l0 l1 l2 l3 : Option Value) (a : Nat) (r : List Value) (σ : zk_S) (sz k c : Nat), zk_run E (zk_VT E) M_X10_mostIn (C_X10_mostIn E) P PX K (n + 1) 24 [l0, l1, l2, l3] (.ref a :: r) (σ, sz, k, c) = zk_fld (zk_view E σ a) [5] 5 (fun v => zk_run E (zk_VT E) M_X10_mostIn (C_X10_mostIn E) P PX K n 27 [l0, l1, l2, l3] (v :: r) (σ, sz, k, c))) ∧
  (∀ (n : Nat) (l0 l1 l2 l3 : Option Value) (x y : Int32) (r : List Value) (σ : zk_S) (sz k c : Nat), zk_run E (zk_VT E) M_X10_mostIn (C_X10_mostIn E) P PX K (n + 1) 27 [l0, l1, l2, l3] (.int y :: .int x :: r) (σ, sz, k, c) = zk_run E (zk_VT E) M_X10_mostIn (C_X10_mostIn E) P PX K n 28 [l0, l1, l2, l3] (.int (x * y) :: r) (σ, sz, k, c)) ∧
  (∀ (n : Nat) (l0 l1 l2 : Option Value) (y3 : Int32) (r : List Value) (σ : zk_S) (sz k c : Nat), zk_run E (zk_VT E) M_X10_mostIn (C_X10_mostIn E) P PX K (n + 1) 28 [l0, l1, l2, some (.int y3)] r (σ, sz, k, c) = zk_run E (zk_VT E) M_X10_mostIn (C_X10_mostIn E) P PX K n 29 [l0, l1, l2, some (.int y3)] (.int y3 :: r) (σ, sz, k, c)) ∧
  (∀ (n : Nat) (l0 l1 l2 l3 : Option Value) (x y : Int32) (r : List Value) (σ : zk_S) (sz k c : Nat), zk_run E (zk_VT E) M_X10_mostIn (C_X10_mostIn E) P PX K (n + 1) 29 [l0, l1, l2, l3] (.int y :: .int x :: r) (σ, sz, k, c) = (¬ y = 0 ∧ zk_run E (zk_VT E) M_X10_mostIn (C_X10_mostIn E) P PX K n 30 [l0, l1, l2, l3] (.int (x / y) :: r) (σ, sz, k, c))) ∧
  (∀ (n : Nat) (l0 l1 l2 l3 : Option Value) (x y : Int32)  (σ : zk_S) (sz k c : Nat), zk_run E (zk_VT E) M_X10_mostIn (C_X10_mostIn E) P PX K (n + 1) 30 [l0, l1, l2, l3] (.int y :: .int x :: []) (σ, sz, k, c) = (([] : List Value).length ≤ 4 ∧ k ≤ 0 ∧ c ≤ 0 ∧ zk_run E (zk_VT E) M_X10_mostIn (C_X10_mostIn E) P PX K n 33 [l0, l1, l2, l3] (.int (i_min x y) :: []) (σ, sz, k, c))) ∧
  (∀ (n : Nat) (l0 l1 l2 l3 : Option Value) (x : Int32) (r : List Value) (σ : zk_S) (sz k c : Nat), zk_run E (zk_VT E) M_X10_mostIn (C_X10_mostIn E) P PX K (n + 1) 33 [l0, l1, l2, l3] (.int x :: r) (σ, sz, k, c) = zk_run E (zk_VT E) M_X10_mostIn (C_X10_mostIn E) P PX K n 34 [l0, zk_kl l1, some (.int x), l3] r (σ, sz, k, c)) ∧
  (∀ (n : Nat) (l1 l2 l3 : Option Value) (y0 : Value) (r : List Value) (σ : zk_S) (sz k c : Nat), zk_run E (zk_VT E) M_X10_mostIn (C_X10_mostIn E) P PX K (n + 1) 34 [some y0, l1, l2, l3] r (σ, sz, k, c) = (zk_isr y0 ∧ zk_run E (zk_VT E) M_X10_mostIn (C_X10_mostIn E) P PX K n 35 [some y0, l1, l2, l3] (y0 :: r) (σ, sz, k, c))) ∧
  (∀ (n : Nat) (l0 l1 l2 l3 : Option Value) (a : Nat) (r : List Value) (σ : zk_S) (sz k c : Nat), zk_run E (zk_VT E) M_X10_mostIn (C_X10_mostIn E) P PX K (n + 1) 35 [l0, l1, l2, l3] (.ref a :: r) (σ, sz, k, c) = zk_fld (zk_view E σ a) [9] 0 (fun v => zk_run E (zk_VT E) M_X10_mostIn (C_X10_mostIn E) P PX K n 38 [l0, l1, l2, l3] (v :: r) (σ, sz, k, c))) ∧
  (∀ (n : Nat) (l0 l2 l3 : Option Value) (y1 : Value) (r : List Value) (σ : zk_S) (sz k c : Nat), zk_run E (zk_VT E) M_X10_mostIn (C_X10_mostIn E) P PX K (n + 1) 38 [l0, some y1, l2, l3] r (σ, sz, k, c) = (zk_isr y1 ∧ zk_run E (zk_VT E) M_X10_mostIn (C_X10_mostIn E) P PX K n 39 [l0, some y1, l2, l3] (y1 :: r) (σ, sz, k, c))) ∧
  (∀ (n : Nat) (l0 l1 l2 l3 : Option Value) (v0 : Value) (v1 : Value)  (σ : zk_S) (sz k c : Nat), zk_run E (zk_VT E) M_X10_mostIn (C_X10_mostIn E) P PX K (n + 1) 39 [l0, l1, l2, l3] [v0, v1] (σ, sz, k, c) = (k + 0 ≤ 0 ∧ c + 0 ≤ 0 ∧ (zk_rv (zk_VT E) (fun ci => Nat.beq ci 4) (sp_X5_countOpen E)) [v1, v0] σ sz (fun v s2 z2 => zk_run E (zk_VT E) M_X10_mostIn (C_X10_mostIn E) P PX K n 42 [l0, l1, l2, l3] (zk_psh v []) (s2, z2, k + 0, c + 0)) (fun X s2 z2 => PX X s2 z2))) ∧
  (∀ (n : Nat) (l0 l1 l2 l3 : Option Value)  (r : List Value) (σ : zk_S) (sz k c : Nat), zk_run E (zk_VT E) M_X10_mostIn (C_X10_mostIn E) P PX K (n + 1) 42 [l0, l1, l2, l3] r (σ, sz, k, c) = zk_run E (zk_VT E) M_X10_mostIn (C_X10_mostIn E) P PX K n 43 [l0, l1, l2, l3] (.int (1) :: r) (σ, sz, k, c)) ∧
  (∀ (n : Nat) (l0 l1 l2 l3 : Option Value) (x y : Int32) (r : List Value) (σ : zk_S) (sz k c : Nat), zk_run E (zk_VT E) M_X10_mostIn (C_X10_mostIn E) P PX K (n + 1) 43 [l0, l1, l2, l3] (.int y :: .int x :: r) (σ, sz, k, c) = ((y < x → zk_run E (zk_VT E) M_X10_mostIn (C_X10_mostIn E) P PX K n 63 [l0, l1, l2, l3] r (σ, sz, k, c)) ∧ (¬ (y < x) → zk_run E (zk_VT E) M_X10_mostIn (C_X10_mostIn E) P PX K n 46 [l0, l1, l2, l3] r (σ, sz, k, c)))) ∧
  (∀ (n : Nat) (l0 l1 l3 : Option Value) (y2 : Int32) (r : List Value) (σ : zk_S) (sz k c : Nat), zk_run E (zk_VT E) M_X10_mostIn (C_X10_mostIn E) P PX K (n + 1) 46 [l0, l1, some (.int y2), l3] r (σ, sz, k, c) = zk_run E (zk_VT E) M_X10_mostIn (C_X10_mostIn E) P PX K n 47 [l0, l1, some (.int y2), l3] (.int y2 :: r) (σ, sz, k, c)) ∧
  (∀ (n : Nat) (l1 l2 l3 : Option Value) (y0 : Value) (r : List Value) (σ : zk_S) (sz k c : Nat), zk_run E (zk_VT E) M_X10_mostIn (C_X10_mostIn E) P PX K (n + 1) 47 [some y0, l1, l2, l3] r (σ, sz, k, c) = (zk_isr y0 ∧ zk_run E (zk_VT E) M_X10_mostIn (C_X10_mostIn E) P PX K n 48 [some y0, l1, l2, l3] (y0 :: r) (σ, sz, k, c))) ∧
  (∀ (n : Nat) (l0 l1 l2 l3 : Option Value) (a : Nat) (r : List Value) (σ : zk_S) (sz k c : Nat), zk_run E (zk_VT E) M_X10_mostIn (C_X10_mostIn E) P PX K (n + 1) 48 [l0, l1, l2, l3] (.ref a :: r) (σ, sz, k, c) = zk_fld (zk_view E σ a) [9] 0 (fun v => zk_run E (zk_VT E) M_X10_mostIn (C_X10_mostIn E) P PX K n 51 [l0, l1, l2, l3] (v :: r) (σ, sz, k, c))) ∧
  (∀ (n : Nat) (l0 l1 l2 l3 : Option Value) (a : Nat) (r : List Value) (σ : zk_S) (sz k c : Nat), zk_run E (zk_VT E) M_X10_mostIn (C_X10_mostIn E) P PX K (n + 1) 51 [l0, l1, l2, l3] (.ref a :: r) (σ, sz, k, c) = zk_fld (zk_view E σ a) [4] 4 (fun v => zk_run E (zk_VT E) M_X10_mostIn (C_X10_mostIn E) P PX K n 54 [l0, l1, l2, l3] (v :: r) (σ, sz, k, c))) ∧
  (∀ (n : Nat) (l0 l1 l2 l3 : Option Value)  (r : List Value) (σ : zk_S) (sz k c : Nat), zk_run E (zk_VT E) M_X10_mostIn (C_X10_mostIn E) P PX K (n + 1) 54 [l0, l1, l2, l3] r (σ, sz, k, c) = zk_run E (zk_VT E) M_X10_mostIn (C_X10_mostIn E) P PX K n 56 [l0, l1, l2, l3] (.int (6) :: r) (σ, sz, k, c)) ∧
  (∀ (n : Nat) (l0 l1 l2 l3 : Option Value) (a : Nat) (i : Int32) (r : List Value) (σ : zk_S) (sz k c : Nat), zk_run E (zk_VT E) M_X10_mostIn (C_X10_mostIn E) P PX K (n + 1) 56 [l0, l1, l2, l3] (.int i :: .ref a :: r) (σ, sz, k, c) = zk_ild (zk_view E σ a) (zk_ar E 0) i (fun x => zk_run E (zk_VT E) M_X10_mostIn (C_X10_mostIn E) P PX K n 57 [l0, l1, l2, l3] (.int x :: r) (σ, sz, k, c))) ∧
  (∀ (n : Nat) (l0 l1 l2 l3 : Option Value) (x y : Int32)  (σ : zk_S) (sz k c : Nat), zk_run E (zk_VT E) M_X10_mostIn (C_X10_mostIn E) P PX K (n + 1) 57 [l0, l1, l2, l3] (.int y :: .int x :: []) (σ, sz, k, c) = (([] : List Value).length ≤ 4 ∧ k ≤ 0 ∧ c ≤ 0 ∧ zk_run E (zk_VT E) M_X10_mostIn (C_X10_mostIn E) P PX K n 60 [l0, l1, l2, l3] (.int (i_min x y) :: []) (σ, sz, k, c))) ∧
  (∀ (n : Nat) (l0 l1 l2 l3 : Option Value)  (r : List Value) (σ : zk_S) (sz k c : Nat), zk_run E (zk_VT E) M_X10_mostIn (C_X10_mostIn E) P PX K (n + 1) 60 [l0, l1, l2, l3] r (σ, sz, k, c) = zk_run E (zk_VT E) M_X10_mostIn (C_X10_mostIn E) P PX K n 64 [l0, l1, l2, l3] r (σ, sz, k, c)) ∧
  (∀ (n : Nat) (l0 l1 l3 : Option Value) (y2 : Int32) (r : List Value) (σ : zk_S) (sz k c : Nat), zk_run E (zk_VT E) M_X10_mostIn (C_X10_mostIn E) P PX K (n + 1) 63 [l0, l1, some (.int y2), l3] r (σ, sz, k, c) = zk_run E (zk_VT E) M_X10_mostIn (C_X10_mostIn E) P PX K n 64 [l0, l1, some (.int y2), l3] (.int y2 :: r) (σ, sz, k, c)) ∧
  (∀ (n : Nat) (l0 l1 l2 l3 : Option Value) (x : Int32)  (σ : zk_S) (sz k c : Nat), zk_run E (zk_VT E) M_X10_mostIn (C_X10_mostIn E) P PX K (n + 1) 64 [l0, l1, l2, l3] [.int x] (σ, sz, k, c) = (zk_nok (some (.int)) x ∧ P (some (.int x)) σ sz ∧ k ≤ 0 ∧ c ≤ 0)) ∧
  (∀ (n : Nat) (l0 l1 l2 l3 : Option Value) (r : List Value) (w : zk_W zk_S), zk_go E (zk_VT E) M_X10_mostIn (C_X10_mostIn E) P PX K n 0 [l0, l1, l2, l3] r w = zk_run E (zk_VT E) M_X10_mostIn (C_X10_mostIn E) P PX K (n + 1) 0 [l0, l1, l2, l3] r w) := ⟨by intros; rfl, by intros; rfl, by intros; rfl, by intros; rfl, by intros; rfl, by intros; rfl, by intros; rfl, by intros; rfl, by intros; rfl, by intros; rfl, by intros; rfl, by intros; rfl, by intros; rfl, by intros; rfl, by intros; rfl, by intros; rfl, by intros; rfl, by intros; rfl, by intros; rfl, by intros; rfl, by intros; rfl, by intros; rfl, by intros; rfl, by intros; rfl, by intros; rfl, by intros; rfl, by intros; rfl, by intros; rfl, by intros; rfl, by intros; rfl, by intros; rfl, by intros; rfl, by intros; rfl, by intros; rfl, by intros; rfl, by intros; rfl, by intros; rfl⟩
theorem vc_X10_mostIn (E : zk_E) : zk_VC E (zk_VT E) M_X10_mostIn (C_X10_mostIn E) 4 (sp_X10_mostIn E) := by
  intro av σ sz P PX h
  obtain ⟨J, N, Q, O, U⟩ := σ
  unfold sp_X10_mostIn at h
  split at h
  case h_2 => exact h.elim
  rename_i a0 b
  obtain ⟨rfl, h⟩ := h
  refine ⟨Nat.le_of_ble_eq_true rfl, fun G hG => ?_⟩
  change G 0 [some (.ref (zk_ad E 0)), some (.ref b), none, none] [] ((J, N, Q, O, U), sz, 0, 0)
  try dsimp only at h
  obtain ⟨J1, N1, j, ⟨hmi, hxr, hrk⟩, hj, hb, h⟩ := h
  have hb : Q 2 j = some b := hb
  obtain ⟨-, hbo, hOb⟩ := hxr.2.1.back (hj.lt hmi) hb
  have hOb : O b = some (xrm N1 j) := hOb
  have hb1 := hbo.1
  have g4 : ∀ F : Value → Prop, zk_fld (O b) [5] 4 F = F (.int (N1 26 j)) := fun F => by rw [hOb]; simp [zk_fld_o, xrm, cR, zk_nth]
  have g5 : ∀ F : Value → Prop, zk_fld (O b) [5] 5 F = F (.int (N1 27 j)) := fun F => by rw [hOb]; simp [zk_fld_o, xrm, cR, zk_nth]
  have i3 : vp_in 3 10 := n_in (n := 3) (by decide) (by decide)
  have i6 : vp_in 6 10 := n_in (n := 6) (by decide) (by decide)
  have t3 : (3 : Int32).toNatClampNeg = 3 ∧ (6 : Int32).toNatClampNeg = 6 := ⟨rfl, rfl⟩
  have e3 : N 6 3 = N1 46 3 := hxr.1.2.2.2.2 3 (by decide)
  have e6 : N 6 6 = N1 46 6 := hxr.1.2.2.2.2 6 (by decide)
  have hop := hxr.opn50 hmi hj hb
  have hle : a_ex J1 N1 (nI j) ≤ 100 := Nat.le_trans (g_ex_le _ _ _ _) (m_act_len J1 N1)
  have hxok := hxr.xok
  unfold a_most at h
  by_cases q : a_ex J1 N1 (nI j) < 2
  · rw [if_pos q] at h
    have c2' : ¬ (1 : Int32) < nI (a_ex J1 N1 (nI j)) := (nI_nlt (a := 1) (by omega) (by decide) : ¬ nI 1 < nI (a_ex J1 N1 (nI j)))
    unfold g_most at h
    by_cases c : 0 < N1 46 3
    · rw [if_pos c] at h
      have c3 : ¬ N1 46 3 ≤ 0 := Int32.not_le.mpr c
      have c4 : ¬ N1 46 3 = 0 := fun z => by rw [z] at c; exact absurd c (by decide)
      (refine hG 900 _ _ _ _ ?_; simp only [r_X10_mostIn, zk_kl_none, zk_kl_int, zk_kl_ref, zk_kl_null, zk_kl_long, zk_kl_rf, zk_isr_ref, zk_isr_null, zk_isr_rf9, zk_c1_int, zk_c1_ref, zk_c1_null, zk_c1_rf, zk_psh_some, zk_psh_none, zk_nok_int, zk_nok_bool0, zk_nok_bool1, zk_nok_b, zk_fok_0, zk_fok_1, zk_fok_2, zk_fok_n, zk_fok_rf, zb_f, zb_p, zb_i, zb_a, zb_s, zk_nth_0, zk_nth_s, zk_fld_o, zk_put_o, zk_rv_eq, zk_ri_eq, zk_is_o, List.mem_cons, List.not_mem_nil, or_false, false_or, or_true, true_or, and_true, true_and, not_false_iff, not_true_eq_false, true_implies, false_implies, imp_self, implies_true, forall_const, zk_lit, zk_uj_ap, zk_un_ap, zk_un_un, zk_uj_uj, Nat.reduceEqDiff, eq_self, zk_bq, Bool.true_or, Bool.false_or, Nat.le_refl, Nat.zero_add, Nat.add_zero, Nat.reduceAdd, Nat.reduceLeDiff, Nat.le_zero_eq, and_self, and_false, false_and, ite_true, ite_false, Nat.zero_le, List.length_cons, List.length_nil, Option.some.injEq, forall_eq', reduceCtorEq, i3, i6, t3, e3, e6, c3, c4, zk_vd hb1, g4, g5, spe_X5_countOpen, hxok, hop, c2'])
      exact h
    · rw [if_neg c] at h
      have c3 : N1 46 3 ≤ 0 := Int32.not_lt.mp c
      (refine hG 900 _ _ _ _ ?_; simp only [r_X10_mostIn, zk_kl_none, zk_kl_int, zk_kl_ref, zk_kl_null, zk_kl_long, zk_kl_rf, zk_isr_ref, zk_isr_null, zk_isr_rf9, zk_c1_int, zk_c1_ref, zk_c1_null, zk_c1_rf, zk_psh_some, zk_psh_none, zk_nok_int, zk_nok_bool0, zk_nok_bool1, zk_nok_b, zk_fok_0, zk_fok_1, zk_fok_2, zk_fok_n, zk_fok_rf, zb_f, zb_p, zb_i, zb_a, zb_s, zk_nth_0, zk_nth_s, zk_fld_o, zk_put_o, zk_rv_eq, zk_ri_eq, zk_is_o, List.mem_cons, List.not_mem_nil, or_false, false_or, or_true, true_or, and_true, true_and, not_false_iff, not_true_eq_false, true_implies, false_implies, imp_self, implies_true, forall_const, zk_lit, zk_uj_ap, zk_un_ap, zk_un_un, zk_uj_uj, Nat.reduceEqDiff, eq_self, zk_bq, Bool.true_or, Bool.false_or, Nat.le_refl, Nat.zero_add, Nat.add_zero, Nat.reduceAdd, Nat.reduceLeDiff, Nat.le_zero_eq, and_self, and_false, false_and, ite_true, ite_false, Nat.zero_le, List.length_cons, List.length_nil, Option.some.injEq, forall_eq', reduceCtorEq, i3, i6, t3, e3, e6, c3, zk_vd hb1, g4, g5, spe_X5_countOpen, hxok, hop, c2'])
      exact h
  · rw [if_neg q] at h
    have c2' : (1 : Int32) < nI (a_ex J1 N1 (nI j)) := (nI_lt (a := 1) (by omega) (by omega) : nI 1 < nI (a_ex J1 N1 (nI j)))
    unfold g_most at h
    by_cases c : 0 < N1 46 3
    · rw [if_pos c] at h
      have c3 : ¬ N1 46 3 ≤ 0 := Int32.not_le.mpr c
      have c4 : ¬ N1 46 3 = 0 := fun z => by rw [z] at c; exact absurd c (by decide)
      (refine hG 900 _ _ _ _ ?_; simp only [r_X10_mostIn, zk_kl_none, zk_kl_int, zk_kl_ref, zk_kl_null, zk_kl_long, zk_kl_rf, zk_isr_ref, zk_isr_null, zk_isr_rf9, zk_c1_int, zk_c1_ref, zk_c1_null, zk_c1_rf, zk_psh_some, zk_psh_none, zk_nok_int, zk_nok_bool0, zk_nok_bool1, zk_nok_b, zk_fok_0, zk_fok_1, zk_fok_2, zk_fok_n, zk_fok_rf, zb_f, zb_p, zb_i, zb_a, zb_s, zk_nth_0, zk_nth_s, zk_fld_o, zk_put_o, zk_rv_eq, zk_ri_eq, zk_is_o, List.mem_cons, List.not_mem_nil, or_false, false_or, or_true, true_or, and_true, true_and, not_false_iff, not_true_eq_false, true_implies, false_implies, imp_self, implies_true, forall_const, zk_lit, zk_uj_ap, zk_un_ap, zk_un_un, zk_uj_uj, Nat.reduceEqDiff, eq_self, zk_bq, Bool.true_or, Bool.false_or, Nat.le_refl, Nat.zero_add, Nat.add_zero, Nat.reduceAdd, Nat.reduceLeDiff, Nat.le_zero_eq, and_self, and_false, false_and, ite_true, ite_false, Nat.zero_le, List.length_cons, List.length_nil, Option.some.injEq, forall_eq', reduceCtorEq, i3, i6, t3, e3, e6, c3, c4, zk_vd hb1, g4, g5, spe_X5_countOpen, hxok, hop, c2'])
      exact h
    · rw [if_neg c] at h
      have c3 : N1 46 3 ≤ 0 := Int32.not_lt.mp c
      (refine hG 900 _ _ _ _ ?_; simp only [r_X10_mostIn, zk_kl_none, zk_kl_int, zk_kl_ref, zk_kl_null, zk_kl_long, zk_kl_rf, zk_isr_ref, zk_isr_null, zk_isr_rf9, zk_c1_int, zk_c1_ref, zk_c1_null, zk_c1_rf, zk_psh_some, zk_psh_none, zk_nok_int, zk_nok_bool0, zk_nok_bool1, zk_nok_b, zk_fok_0, zk_fok_1, zk_fok_2, zk_fok_n, zk_fok_rf, zb_f, zb_p, zb_i, zb_a, zb_s, zk_nth_0, zk_nth_s, zk_fld_o, zk_put_o, zk_rv_eq, zk_ri_eq, zk_is_o, List.mem_cons, List.not_mem_nil, or_false, false_or, or_true, true_or, and_true, true_and, not_false_iff, not_true_eq_false, true_implies, false_implies, imp_self, implies_true, forall_const, zk_lit, zk_uj_ap, zk_un_ap, zk_un_un, zk_uj_uj, Nat.reduceEqDiff, eq_self, zk_bq, Bool.true_or, Bool.false_or, Nat.le_refl, Nat.zero_add, Nat.add_zero, Nat.reduceAdd, Nat.reduceLeDiff, Nat.le_zero_eq, and_self, and_false, false_and, ite_true, ite_false, Nat.zero_le, List.length_cons, List.length_nil, Option.some.injEq, forall_eq', reduceCtorEq, i3, i6, t3, e3, e6, c3, zk_vd hb1, g4, g5, spe_X5_countOpen, hxok, hop, c2'])
      exact h
theorem ct_X10_mostIn {l : Launch} (hl : l.stackTraces = false) (E : zk_E) : zk_C l E (zk_VT E) yX10_mostIn cX10_mostIn 4 (some (.int)) rm_X10_mostIn (sp_X10_mostIn E) := by
  refine zk_meth (M := M_X10_mostIn) (C := C_X10_mostIn E) hl (by decide +kernel) rfl (fun _ _ => rfl) (zk_VT_ok E) MO_X10_mostIn TO_X10_mostIn THo_X10_mostIn ?_ (vc_X10_mostIn E)
  exact fun p e s m args below meth c X pc n mc ms sp2 h => by
    have h2 := zk_lka_mem h
    simp only [List.mem_cons, List.not_mem_nil, or_false, Prod.mk.injEq] at h2
    rcases h2 with ⟨rfl, rfl, rfl, rfl, rfl⟩
    exact zk_coV (idx := 315) X (ct_X5_countOpen hl E) (List.forall_mem_cons.mpr ⟨zk_wi 400 (by decide +kernel) rfl, List.forall_mem_cons.mpr ⟨zk_wi 205 (by decide +kernel) rfl, List.forall_mem_cons.mpr ⟨zk_wi 206 (by decide +kernel) rfl, List.forall_mem_cons.mpr ⟨zk_wi 3 (by decide +kernel) rfl, List.forall_mem_cons.mpr ⟨zk_wi 207 (by decide +kernel) rfl, fun _ h => absurd h List.not_mem_nil⟩⟩⟩⟩⟩) (fun ci h => by
      have h := Nat.eq_of_beq_eq_true h
      subst h
      exact ⟨_, _, rfl⟩) (by decide +kernel) ⟨by decide, by decide, by decide +kernel⟩ ⟨by decide, by decide⟩

