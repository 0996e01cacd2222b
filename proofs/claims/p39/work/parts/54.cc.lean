/-! the class: exits, small steps -/
def TX (σ : zk_S) (sz : Nat) (X : String) (PX : zk_X zk_S) : Prop := ∀ z2, sz ≤ z2 → PX X σ z2
def p_mx (o : Option va_E) : Int32 := if fI o 1 = 0 then 2 * fI o 3 + fI o 4 else 2 * fI o 2
def p_my (o : Option va_E) : Int32 := if fI o 1 = 0 then 2 * fI o 2 else 2 * fI o 3 + fI o 4
def sp_X4_middleX (E : zk_E) : zk_Sp zk_S := fun av σ sz P PX => match av with
  | [.ref a] => E.1 + 28 ≤ a ∧ isP (σ.2.2.2.1 a) ∧ P (some (.int (p_mx (σ.2.2.2.1 a)))) σ sz
  | _ => False
theorem spe_X4_middleX (E : zk_E) (a : Nat) (σ : zk_S) (sz : Nat) (P : zk_P zk_S) (PX : zk_X zk_S) : sp_X4_middleX E [.ref a] σ sz P PX = (E.1 + 28 ≤ a ∧ isP (σ.2.2.2.1 a) ∧ P (some (.int (p_mx (σ.2.2.2.1 a)))) σ sz) := propext Iff.rfl
def C_X4_middleX (E : zk_E) : zk_Cl zk_S := zk_lka []
theorem r_X4_middleX (E : zk_E) (P : zk_P zk_S) (PX : zk_X zk_S) (K : Nat → zk_L → List Value → zk_W zk_S → Prop) : (∀ (n : Nat)  (y0 : Value) (r : List Value) (σ : zk_S) (sz k c : Nat), zk_run E (zk_VT E) M_X4_middleX (C_X4_middleX E) P PX K (n + 1) 0 [some y0] r (σ, sz, k, c) = (zk_isr y0 ∧ zk_run E (zk_VT E) M_X4_middleX (C_X4_middleX E) P PX K n 1 [some y0] (y0 :: r) (σ, sz, k, c))) ∧
  (∀ (n : Nat) (l0 : Option Value) (a : Nat) (r : List Value) (σ : zk_S) (sz k c : Nat), zk_run E (zk_VT E) M_X4_middleX (C_X4_middleX E) P PX K (n + 1) 1 [l0] (.ref a :: r) (σ, sz, k, c) = zk_fld (zk_view E σ a) [3] 1 (fun v => zk_run E (zk_VT E) M_X4_middleX (C_X4_middleX E) P PX K n 4 [l0] (v :: r) (σ, sz, k, c))) ∧
  (∀ (n : Nat) (l0 : Option Value) (x : Int32) (r : List Value) (σ : zk_S) (sz k c : Nat), zk_run E (zk_VT E) M_X4_middleX (C_X4_middleX E) P PX K (n + 1) 4 [l0] (.int x :: r) (σ, sz, k, c) = ((x = 0 → zk_run E (zk_VT E) M_X4_middleX (C_X4_middleX E) P PX K n 16 [l0] r (σ, sz, k, c)) ∧ (¬ (x = 0) → zk_run E (zk_VT E) M_X4_middleX (C_X4_middleX E) P PX K n 7 [l0] r (σ, sz, k, c)))) ∧
  (∀ (n : Nat) (l0 : Option Value)  (r : List Value) (σ : zk_S) (sz k c : Nat), zk_run E (zk_VT E) M_X4_middleX (C_X4_middleX E) P PX K (n + 1) 7 [l0] r (σ, sz, k, c) = zk_run E (zk_VT E) M_X4_middleX (C_X4_middleX E) P PX K n 8 [l0] (.int (2) :: r) (σ, sz, k, c)) ∧
  (∀ (n : Nat)  (y0 : Value) (r : List Value) (σ : zk_S) (sz k c : Nat), zk_run E (zk_VT E) M_X4_middleX (C_X4_middleX E) P PX K (n + 1) 8 [some y0] r (σ, sz, k, c) = (zk_isr y0 ∧ zk_run E (zk_VT E) M_X4_middleX (C_X4_middleX E) P PX K n 9 [some y0] (y0 :: r) (σ, sz, k, c))) ∧
  (∀ (n : Nat) (l0 : Option Value) (a : Nat) (r : List Value) (σ : zk_S) (sz k c : Nat), zk_run E (zk_VT E) M_X4_middleX (C_X4_middleX E) P PX K (n + 1) 9 [l0] (.ref a :: r) (σ, sz, k, c) = zk_fld (zk_view E σ a) [3] 2 (fun v => zk_run E (zk_VT E) M_X4_middleX (C_X4_middleX E) P PX K n 12 [l0] (v :: r) (σ, sz, k, c))) ∧
  (∀ (n : Nat) (l0 : Option Value) (x y : Int32) (r : List Value) (σ : zk_S) (sz k c : Nat), zk_run E (zk_VT E) M_X4_middleX (C_X4_middleX E) P PX K (n + 1) 12 [l0] (.int y :: .int x :: r) (σ, sz, k, c) = zk_run E (zk_VT E) M_X4_middleX (C_X4_middleX E) P PX K n 13 [l0] (.int (x * y) :: r) (σ, sz, k, c)) ∧
  (∀ (n : Nat) (l0 : Option Value)  (r : List Value) (σ : zk_S) (sz k c : Nat), zk_run E (zk_VT E) M_X4_middleX (C_X4_middleX E) P PX K (n + 1) 13 [l0] r (σ, sz, k, c) = zk_run E (zk_VT E) M_X4_middleX (C_X4_middleX E) P PX K n 27 [l0] r (σ, sz, k, c)) ∧
  (∀ (n : Nat) (l0 : Option Value)  (r : List Value) (σ : zk_S) (sz k c : Nat), zk_run E (zk_VT E) M_X4_middleX (C_X4_middleX E) P PX K (n + 1) 16 [l0] r (σ, sz, k, c) = zk_run E (zk_VT E) M_X4_middleX (C_X4_middleX E) P PX K n 17 [l0] (.int (2) :: r) (σ, sz, k, c)) ∧
  (∀ (n : Nat)  (y0 : Value) (r : List Value) (σ : zk_S) (sz k c : Nat), zk_run E (zk_VT E) M_X4_middleX (C_X4_middleX E) P PX K (n + 1) 17 [some y0] r (σ, sz, k, c) = (zk_isr y0 ∧ zk_run E (zk_VT E) M_X4_middleX (C_X4_middleX E) P PX K n 18 [some y0] (y0 :: r) (σ, sz, k, c))) ∧
  (∀ (n : Nat) (l0 : Option Value) (a : Nat) (r : List Value) (σ : zk_S) (sz k c : Nat), zk_run E (zk_VT E) M_X4_middleX (C_X4_middleX E) P PX K (n + 1) 18 [l0] (.ref a :: r) (σ, sz, k, c) = zk_fld (zk_view E σ a) [3] 3 (fun v => zk_run E (zk_VT E) M_X4_middleX (C_X4_middleX E) P PX K n 21 [l0] (v :: r) (σ, sz, k, c))) ∧
  (∀ (n : Nat) (l0 : Option Value) (x y : Int32) (r : List Value) (σ : zk_S) (sz k c : Nat), zk_run E (zk_VT E) M_X4_middleX (C_X4_middleX E) P PX K (n + 1) 21 [l0] (.int y :: .int x :: r) (σ, sz, k, c) = zk_run E (zk_VT E) M_X4_middleX (C_X4_middleX E) P PX K n 22 [l0] (.int (x * y) :: r) (σ, sz, k, c)) ∧
  (∀ (n : Nat)  (y0 : Value) (r : List Value) (σ : zk_S) (sz k c : Nat), zk_run E (zk_VT E) M_X4_middleX (C_X4_middleX E) P PX K (n + 1) 22 [some y0] r (σ, sz, k, c) = (zk_isr y0 ∧ zk_run E (zk_VT E) M_X4_middleX (C_X4_middleX E) P PX K n 23 [some y0] (y0 :: r) (σ, sz, k, c))) ∧
  (∀ (n : Nat) (l0 : Option Value) (a : Nat) (r : List Value) (σ : zk_S) (sz k c : Nat), zk_run E (zk_VT E) M_X4_middleX (C_X4_middleX E) P PX K (n + 1) 23 [l0] (.ref a :: r) (σ, sz, k, c) = zk_fld (zk_view E σ a) [3] 4 (fun v => zk_run E (zk_VT E) M_X4_middleX (C_X4_middleX E) P PX K n 26 [l0] (v :: r) (σ, sz, k, c))) ∧
  (∀ (n : Nat) (l0 : Option Value) (x y : Int32) (r : List Value) (σ : zk_S) (sz k c : Nat), zk_run E (zk_VT E) M_X4_middleX (C_X4_middleX E) P PX K (n + 1) 26 [l0] (.int y :: .int x :: r) (σ, sz, k, c) = zk_run E (zk_VT E) M_X4_middleX (C_X4_middleX E) P PX K n 27 [l0] (.int (x + y) :: r) (σ, sz, k, c)) ∧
  (∀ (n : Nat) (l0 : Option Value) (x : Int32)  (σ : zk_S) (sz k c : Nat), zk_run E (zk_VT E) M_X4_middleX (C_X4_middleX E) P PX K (n + 1) 27 [l0] [.int x] (σ, sz, k, c) = (zk_nok (some (.int)) x ∧ P (some (.int x)) σ sz ∧ k ≤ 0 ∧ c ≤ 0)) ∧
  (∀ (n : Nat) (l0 : Option Value) (r : List Value) (w : zk_W zk_S), zk_go E (zk_VT E) M_X4_middleX (C_X4_middleX E) P PX K n 0 [l0] r w = zk_run E (zk_VT E) M_X4_middleX (C_X4_middleX E) P PX K (n + 1) 0 [l0] r w) := ⟨by intros; rfl, by intros; rfl, by intros; rfl, by intros; rfl, by intros; rfl, by intros; rfl, by intros; rfl, by intros; rfl, by intros; rfl, by intros; rfl, by intros; rfl, by intros; rfl, by intros; rfl, by intros; rfl, by intros; rfl, by intros; rfl, by intros; rfl⟩
theorem vc_X4_middleX (E : zk_E) : zk_VC E (zk_VT E) M_X4_middleX (C_X4_middleX E) 1 (sp_X4_middleX E) := by
  intro av σ sz P PX h
  obtain ⟨J, N, Q, O, U⟩ := σ
  unfold sp_X4_middleX at h
  split at h
  case h_2 => exact h.elim
  rename_i a
  refine ⟨Nat.le_of_ble_eq_true rfl, fun G hG => ?_⟩
  change G 0 [some (.ref (a))] [] ((J, N, Q, O, U), sz, 0, 0)
  try dsimp only at h
  obtain ⟨ha, ⟨p0, p1, p2, p3, p4, hO⟩, h⟩ := h
  rw [hO] at h
  unfold p_mx at h
  simp only [fI_P] at h
  unfold cP at hO
  by_cases q : p1 = 0
  · rw [if_pos q] at h
    (refine hG 900 _ _ _ _ ?_; simp only [r_X4_middleX, zk_kl_none, zk_kl_int, zk_kl_ref, zk_kl_null, zk_kl_long, zk_kl_rf, zk_isr_ref, zk_isr_null, zk_isr_rf9, zk_c1_int, zk_c1_ref, zk_c1_null, zk_c1_rf, zk_psh_some, zk_psh_none, zk_nok_int, zk_nok_bool0, zk_nok_bool1, zk_nok_b, zk_fok_0, zk_fok_1, zk_fok_2, zk_fok_n, zk_fok_rf, zb_f, zb_p, zb_i, zb_a, zb_s, zk_nth_0, zk_nth_s, zk_fld_o, zk_put_o, zk_rv_eq, zk_ri_eq, zk_is_o, List.mem_cons, List.not_mem_nil, or_false, false_or, or_true, true_or, and_true, true_and, not_false_iff, not_true_eq_false, true_implies, false_implies, imp_self, implies_true, forall_const, zk_lit, zk_uj_ap, zk_un_ap, zk_un_un, zk_uj_uj, Nat.reduceEqDiff, eq_self, zk_bq, Bool.true_or, Bool.false_or, Nat.le_refl, Nat.zero_add, Nat.add_zero, Nat.reduceAdd, Nat.reduceLeDiff, Nat.le_zero_eq, and_self, and_false, false_and, ite_true, ite_false, Nat.zero_le, List.length_cons, List.length_nil, Option.some.injEq, forall_eq', reduceCtorEq, zk_vd ha, hO, q])
    exact h
  · rw [if_neg q] at h
    (refine hG 900 _ _ _ _ ?_; simp only [r_X4_middleX, zk_kl_none, zk_kl_int, zk_kl_ref, zk_kl_null, zk_kl_long, zk_kl_rf, zk_isr_ref, zk_isr_null, zk_isr_rf9, zk_c1_int, zk_c1_ref, zk_c1_null, zk_c1_rf, zk_psh_some, zk_psh_none, zk_nok_int, zk_nok_bool0, zk_nok_bool1, zk_nok_b, zk_fok_0, zk_fok_1, zk_fok_2, zk_fok_n, zk_fok_rf, zb_f, zb_p, zb_i, zb_a, zb_s, zk_nth_0, zk_nth_s, zk_fld_o, zk_put_o, zk_rv_eq, zk_ri_eq, zk_is_o, List.mem_cons, List.not_mem_nil, or_false, false_or, or_true, true_or, and_true, true_and, not_false_iff, not_true_eq_false, true_implies, false_implies, imp_self, implies_true, forall_const, zk_lit, zk_uj_ap, zk_un_ap, zk_un_un, zk_uj_uj, Nat.reduceEqDiff, eq_self, zk_bq, Bool.true_or, Bool.false_or, Nat.le_refl, Nat.zero_add, Nat.add_zero, Nat.reduceAdd, Nat.reduceLeDiff, Nat.le_zero_eq, and_self, and_false, false_and, ite_true, ite_false, Nat.zero_le, List.length_cons, List.length_nil, Option.some.injEq, forall_eq', reduceCtorEq, zk_vd ha, hO, q])
    exact h
theorem ct_X4_middleX {l : Launch} (hl : l.stackTraces = false) (E : zk_E) : zk_C l E (zk_VT E) yX4_middleX cX4_middleX 1 (some (.int)) rm_X4_middleX (sp_X4_middleX E) := by
  refine zk_meth (M := M_X4_middleX) (C := C_X4_middleX E) hl (by decide +kernel) rfl (fun _ _ => rfl) (zk_VT_ok E) MO_X4_middleX TO_X4_middleX THo_X4_middleX ?_ (vc_X4_middleX E)
  exact fun p e s m args below meth c X pc n mc ms sp2 h => absurd (zk_lka_mem h) List.not_mem_nil
def sp_X4_middleY (E : zk_E) : zk_Sp zk_S := fun av σ sz P PX => match av with
  | [.ref a] => E.1 + 28 ≤ a ∧ isP (σ.2.2.2.1 a) ∧ P (some (.int (p_my (σ.2.2.2.1 a)))) σ sz
  | _ => False
theorem spe_X4_middleY (E : zk_E) (a : Nat) (σ : zk_S) (sz : Nat) (P : zk_P zk_S) (PX : zk_X zk_S) : sp_X4_middleY E [.ref a] σ sz P PX = (E.1 + 28 ≤ a ∧ isP (σ.2.2.2.1 a) ∧ P (some (.int (p_my (σ.2.2.2.1 a)))) σ sz) := propext Iff.rfl
def C_X4_middleY (E : zk_E) : zk_Cl zk_S := zk_lka []
theorem r_X4_middleY (E : zk_E) (P : zk_P zk_S) (PX : zk_X zk_S) (K : Nat → zk_L → List Value → zk_W zk_S → Prop) : (∀ (n : Nat)  (y0 : Value) (r : List Value) (σ : zk_S) (sz k c : Nat), zk_run E (zk_VT E) M_X4_middleY (C_X4_middleY E) P PX K (n + 1) 0 [some y0] r (σ, sz, k, c) = (zk_isr y0 ∧ zk_run E (zk_VT E) M_X4_middleY (C_X4_middleY E) P PX K n 1 [some y0] (y0 :: r) (σ, sz, k, c))) ∧
  (∀ (n : Nat) (l0 : Option Value) (a : Nat) (r : List Value) (σ : zk_S) (sz k c : Nat), zk_run E (zk_VT E) M_X4_middleY (C_X4_middleY E) P PX K (n + 1) 1 [l0] (.ref a :: r) (σ, sz, k, c) = zk_fld (zk_view E σ a) [3] 1 (fun v => zk_run E (zk_VT E) M_X4_middleY (C_X4_middleY E) P PX K n 4 [l0] (v :: r) (σ, sz, k, c))) ∧
  (∀ (n : Nat) (l0 : Option Value) (x : Int32) (r : List Value) (σ : zk_S) (sz k c : Nat), zk_run E (zk_VT E) M_X4_middleY (C_X4_middleY E) P PX K (n + 1) 4 [l0] (.int x :: r) (σ, sz, k, c) = ((x = 0 → zk_run E (zk_VT E) M_X4_middleY (C_X4_middleY E) P PX K n 21 [l0] r (σ, sz, k, c)) ∧ (¬ (x = 0) → zk_run E (zk_VT E) M_X4_middleY (C_X4_middleY E) P PX K n 7 [l0] r (σ, sz, k, c)))) ∧
  (∀ (n : Nat) (l0 : Option Value)  (r : List Value) (σ : zk_S) (sz k c : Nat), zk_run E (zk_VT E) M_X4_middleY (C_X4_middleY E) P PX K (n + 1) 7 [l0] r (σ, sz, k, c) = zk_run E (zk_VT E) M_X4_middleY (C_X4_middleY E) P PX K n 8 [l0] (.int (2) :: r) (σ, sz, k, c)) ∧
  (∀ (n : Nat)  (y0 : Value) (r : List Value) (σ : zk_S) (sz k c : Nat), zk_run E (zk_VT E) M_X4_middleY (C_X4_middleY E) P PX K (n + 1) 8 [some y0] r (σ, sz, k, c) = (zk_isr y0 ∧ zk_run E (zk_VT E) M_X4_middleY (C_X4_middleY E) P PX K n 9 [some y0] (y0 :: r) (σ, sz, k, c))) ∧
  (∀ (n : Nat) (l0 : Option Value) (a : Nat) (r : List Value) (σ : zk_S) (sz k c : Nat), zk_run E (zk_VT E) M_X4_middleY (C_X4_middleY E) P PX K (n + 1) 9 [l0] (.ref a :: r) (σ, sz, k, c) = zk_fld (zk_view E σ a) [3] 3 (fun v => zk_run E (zk_VT E) M_X4_middleY (C_X4_middleY E) P PX K n 12 [l0] (v :: r) (σ, sz, k, c))) ∧
  (∀ (n : Nat) (l0 : Option Value) (x y : Int32) (r : List Value) (σ : zk_S) (sz k c : Nat), zk_run E (zk_VT E) M_X4_middleY (C_X4_middleY E) P PX K (n + 1) 12 [l0] (.int y :: .int x :: r) (σ, sz, k, c) = zk_run E (zk_VT E) M_X4_middleY (C_X4_middleY E) P PX K n 13 [l0] (.int (x * y) :: r) (σ, sz, k, c)) ∧
  (∀ (n : Nat)  (y0 : Value) (r : List Value) (σ : zk_S) (sz k c : Nat), zk_run E (zk_VT E) M_X4_middleY (C_X4_middleY E) P PX K (n + 1) 13 [some y0] r (σ, sz, k, c) = (zk_isr y0 ∧ zk_run E (zk_VT E) M_X4_middleY (C_X4_middleY E) P PX K n 14 [some y0] (y0 :: r) (σ, sz, k, c))) ∧
  (∀ (n : Nat) (l0 : Option Value) (a : Nat) (r : List Value) (σ : zk_S) (sz k c : Nat), zk_run E (zk_VT E) M_X4_middleY (C_X4_middleY E) P PX K (n + 1) 14 [l0] (.ref a :: r) (σ, sz, k, c) = zk_fld (zk_view E σ a) [3] 4 (fun v => zk_run E (zk_VT E) M_X4_middleY (C_X4_middleY E) P PX K n 17 [l0] (v :: r) (σ, sz, k, c))) ∧
  (∀ (n : Nat) (l0 : Option Value) (x y : Int32) (r : List Value) (σ : zk_S) (sz k c : Nat), zk_run E (zk_VT E) M_X4_middleY (C_X4_middleY E) P PX K (n + 1) 17 [l0] (.int y :: .int x :: r) (σ, sz, k, c) = zk_run E (zk_VT E) M_X4_middleY (C_X4_middleY E) P PX K n 18 [l0] (.int (x + y) :: r) (σ, sz, k, c)) ∧
  (∀ (n : Nat) (l0 : Option Value)  (r : List Value) (σ : zk_S) (sz k c : Nat), zk_run E (zk_VT E) M_X4_middleY (C_X4_middleY E) P PX K (n + 1) 18 [l0] r (σ, sz, k, c) = zk_run E (zk_VT E) M_X4_middleY (C_X4_middleY E) P PX K n 27 [l0] r (σ, sz, k, c)) ∧
  (∀ (n : Nat) (l0 : Option Value)  (r : List Value) (σ : zk_S) (sz k c : Nat), zk_run E (zk_VT E) M_X4_middleY (C_X4_middleY E) P PX K (n + 1) 21 [l0] r (σ, sz, k, c) = zk_run E (zk_VT E) M_X4_middleY (C_X4_middleY E) P PX K n 22 [l0] (.int (2) :: r) (σ, sz, k, c)) ∧
  (∀ (n : Nat)  (y0 : Value) (r : List Value) (σ : zk_S) (sz k c : Nat), zk_run E (zk_VT E) M_X4_middleY (C_X4_middleY E) P PX K (n + 1) 22 [some y0] r (σ, sz, k, c) = (zk_isr y0 ∧ zk_run E (zk_VT E) M_X4_middleY (C_X4_middleY E) P PX K n 23 [some y0] (y0 :: r) (σ, sz, k, c))) ∧
  (∀ (n : Nat) (l0 : Option Value) (a : Nat) (r : List Value) (σ : zk_S) (sz k c : Nat), zk_run E (zk_VT E) M_X4_middleY (C_X4_middleY E) P PX K (n + 1) 23 [l0] (.ref a :: r) (σ, sz, k, c) = zk_fld (zk_view E σ a) [3] 2 (fun v => zk_run E (zk_VT E) M_X4_middleY (C_X4_middleY E) P PX K n 26 [l0] (v :: r) (σ, sz, k, c))) ∧
  (∀ (n : Nat) (l0 : Option Value) (x y : Int32) (r : List Value) (σ : zk_S) (sz k c : Nat), zk_run E (zk_VT E) M_X4_middleY (C_X4_middleY E) P PX K (n + 1) 26 [l0] (.int y :: .int x :: r) (σ, sz, k, c) = zk_run E (zk_VT E) M_X4_middleY (C_X4_middleY E) P PX K n 27 [l0] (.int (x * y) :: r) (σ, sz, k, c)) ∧
  (∀ (n : Nat) (l0 : Option Value) (x : Int32)  (σ : zk_S) (sz k c : Nat), zk_run E (zk_VT E) M_X4_middleY (C_X4_middleY E) P PX K (n + 1) 27 [l0] [.int x] (σ, sz, k, c) = (zk_nok (some (.int)) x ∧ P (some (.int x)) σ sz ∧ k ≤ 0 ∧ c ≤ 0)) ∧
  (∀ (n : Nat) (l0 : Option Value) (r : List Value) (w : zk_W zk_S), zk_go E (zk_VT E) M_X4_middleY (C_X4_middleY E) P PX K n 0 [l0] r w = zk_run E (zk_VT E) M_X4_middleY (C_X4_middleY E) P PX K (n + 1) 0 [l0] r w) := ⟨by intros; rfl, by intros; rfl, by intros; rfl, by intros; rfl, by intros; rfl, by intros; rfl, by intros; rfl, by intros; rfl, by intros; rfl, by intros; rfl, by intros; rfl, by intros; rfl, by intros; rfl, by intros; rfl, by intros; rfl, by intros; rfl, by intros; rfl⟩
theorem vc_X4_middleY (E : zk_E) : zk_VC E (zk_VT E) M_X4_middleY (C_X4_middleY E) 1 (sp_X4_middleY E) := by
  intro av σ sz P PX h
  obtain ⟨J, N, Q, O, U⟩ := σ
  unfold sp_X4_middleY at h
  split at h
  case h_2 => exact h.elim
  rename_i a
  refine ⟨Nat.le_of_ble_eq_true rfl, fun G hG => ?_⟩
  change G 0 [some (.ref (a))] [] ((J, N, Q, O, U), sz, 0, 0)
  try dsimp only at h
  obtain ⟨ha, ⟨p0, p1, p2, p3, p4, hO⟩, h⟩ := h
  rw [hO] at h
  unfold p_my at h
  simp only [fI_P] at h
  unfold cP at hO
  by_cases q : p1 = 0
  · rw [if_pos q] at h
    (refine hG 900 _ _ _ _ ?_; simp only [r_X4_middleY, zk_kl_none, zk_kl_int, zk_kl_ref, zk_kl_null, zk_kl_long, zk_kl_rf, zk_isr_ref, zk_isr_null, zk_isr_rf9, zk_c1_int, zk_c1_ref, zk_c1_null, zk_c1_rf, zk_psh_some, zk_psh_none, zk_nok_int, zk_nok_bool0, zk_nok_bool1, zk_nok_b, zk_fok_0, zk_fok_1, zk_fok_2, zk_fok_n, zk_fok_rf, zb_f, zb_p, zb_i, zb_a, zb_s, zk_nth_0, zk_nth_s, zk_fld_o, zk_put_o, zk_rv_eq, zk_ri_eq, zk_is_o, List.mem_cons, List.not_mem_nil, or_false, false_or, or_true, true_or, and_true, true_and, not_false_iff, not_true_eq_false, true_implies, false_implies, imp_self, implies_true, forall_const, zk_lit, zk_uj_ap, zk_un_ap, zk_un_un, zk_uj_uj, Nat.reduceEqDiff, eq_self, zk_bq, Bool.true_or, Bool.false_or, Nat.le_refl, Nat.zero_add, Nat.add_zero, Nat.reduceAdd, Nat.reduceLeDiff, Nat.le_zero_eq, and_self, and_false, false_and, ite_true, ite_false, Nat.zero_le, List.length_cons, List.length_nil, Option.some.injEq, forall_eq', reduceCtorEq, zk_vd ha, hO, q])
    exact h
  · rw [if_neg q] at h
    (refine hG 900 _ _ _ _ ?_; simp only [r_X4_middleY, zk_kl_none, zk_kl_int, zk_kl_ref, zk_kl_null, zk_kl_long, zk_kl_rf, zk_isr_ref, zk_isr_null, zk_isr_rf9, zk_c1_int, zk_c1_ref, zk_c1_null, zk_c1_rf, zk_psh_some, zk_psh_none, zk_nok_int, zk_nok_bool0, zk_nok_bool1, zk_nok_b, zk_fok_0, zk_fok_1, zk_fok_2, zk_fok_n, zk_fok_rf, zb_f, zb_p, zb_i, zb_a, zb_s, zk_nth_0, zk_nth_s, zk_fld_o, zk_put_o, zk_rv_eq, zk_ri_eq, zk_is_o, List.mem_cons, List.not_mem_nil, or_false, false_or, or_true, true_or, and_true, true_and, not_false_iff, not_true_eq_false, true_implies, false_implies, imp_self, implies_true, forall_const, zk_lit, zk_uj_ap, zk_un_ap, zk_un_un, zk_uj_uj, Nat.reduceEqDiff, eq_self, zk_bq, Bool.true_or, Bool.false_or, Nat.le_refl, Nat.zero_add, Nat.add_zero, Nat.reduceAdd, Nat.reduceLeDiff, Nat.le_zero_eq, and_self, and_false, false_and, ite_true, ite_false, Nat.zero_le, List.length_cons, List.length_nil, Option.some.injEq, forall_eq', reduceCtorEq, zk_vd ha, hO, q])
    exact h
theorem ct_X4_middleY {l : Launch} (hl : l.stackTraces = false) (E : zk_E) : zk_C l E (zk_VT E) yX4_middleY cX4_middleY 1 (some (.int)) rm_X4_middleY (sp_X4_middleY E) := by
  refine zk_meth (M := M_X4_middleY) (C := C_X4_middleY E) hl (by decide +kernel) rfl (fun _ _ => rfl) (zk_VT_ok E) MO_X4_middleY TO_X4_middleY THo_X4_middleY ?_ (vc_X4_middleY E)
  exact fun p e s m args below meth c X pc n mc ms sp2 h => absurd (zk_lka_mem h) List.not_mem_nil
def x_of (o : Option va_E) (r : Nat) : Bool := decide (fR o 0 = some r) || decide (fR o 1 = some r)
def x_oth (o : Option va_E) (r : Nat) : Option Nat := if fR o 0 = some r then fR o 1 else fR o 0
def x_bt (o : Option va_E) (r q : Nat) : Bool := decide (fR o 0 = some r ∧ fR o 1 = some q) || decide (fR o 0 = some q ∧ fR o 1 = some r)
def sp_X2_isOf (E : zk_E) : zk_Sp zk_S := fun av σ sz P PX => match av with
  | [.ref a, .ref r] => E.1 + 28 ≤ a ∧ isX (σ.2.2.2.1 a) ∧ P (some (.int (zk_b (x_of (σ.2.2.2.1 a) r)))) σ sz
  | _ => False
theorem spe_X2_isOf (E : zk_E) (a : Nat) (r : Nat) (σ : zk_S) (sz : Nat) (P : zk_P zk_S) (PX : zk_X zk_S) : sp_X2_isOf E [.ref a, .ref r] σ sz P PX = (E.1 + 28 ≤ a ∧ isX (σ.2.2.2.1 a) ∧ P (some (.int (zk_b (x_of (σ.2.2.2.1 a) r)))) σ sz) := propext Iff.rfl
def C_X2_isOf (E : zk_E) : zk_Cl zk_S := zk_lka []
theorem r_X2_isOf (E : zk_E) (P : zk_P zk_S) (PX : zk_X zk_S) (K : Nat → zk_L → List Value → zk_W zk_S → Prop) : (∀ (n : Nat) (l1 : Option Value) (y0 : Value) (r : List Value) (σ : zk_S) (sz k c : Nat), zk_run E (zk_VT E) M_X2_isOf (C_X2_isOf E) P PX K (n + 1) 0 [some y0, l1] r (σ, sz, k, c) = (zk_isr y0 ∧ zk_run E (zk_VT E) M_X2_isOf (C_X2_isOf E) P PX K n 1 [some y0, l1] (y0 :: r) (σ, sz, k, c))) ∧
  (∀ (n : Nat) (l0 l1 : Option Value) (a : Nat) (r : List Value) (σ : zk_S) (sz k c : Nat), zk_run E (zk_VT E) M_X2_isOf (C_X2_isOf E) P PX K (n + 1) 1 [l0, l1] (.ref a :: r) (σ, sz, k, c) = zk_fld (zk_view E σ a) [1, 6] 0 (fun v => zk_run E (zk_VT E) M_X2_isOf (C_X2_isOf E) P PX K n 4 [l0, l1] (v :: r) (σ, sz, k, c))) ∧
  (∀ (n : Nat) (l0 : Option Value) (y1 : Value) (r : List Value) (σ : zk_S) (sz k c : Nat), zk_run E (zk_VT E) M_X2_isOf (C_X2_isOf E) P PX K (n + 1) 4 [l0, some y1] r (σ, sz, k, c) = (zk_isr y1 ∧ zk_run E (zk_VT E) M_X2_isOf (C_X2_isOf E) P PX K n 5 [l0, some y1] (y1 :: r) (σ, sz, k, c))) ∧
  (∀ (n : Nat) (l0 l1 : Option Value) (x y : Value) (r : List Value) (σ : zk_S) (sz k c : Nat), zk_run E (zk_VT E) M_X2_isOf (C_X2_isOf E) P PX K (n + 1) 5 [l0, l1] (y :: x :: r) (σ, sz, k, c) = (zk_isr x ∧ zk_isr y ∧ (x = y → zk_run E (zk_VT E) M_X2_isOf (C_X2_isOf E) P PX K n 16 [l0, l1] r (σ, sz, k, c)) ∧ (¬ (x = y) → zk_run E (zk_VT E) M_X2_isOf (C_X2_isOf E) P PX K n 8 [l0, l1] r (σ, sz, k, c)))) ∧
  (∀ (n : Nat) (l1 : Option Value) (y0 : Value) (r : List Value) (σ : zk_S) (sz k c : Nat), zk_run E (zk_VT E) M_X2_isOf (C_X2_isOf E) P PX K (n + 1) 8 [some y0, l1] r (σ, sz, k, c) = (zk_isr y0 ∧ zk_run E (zk_VT E) M_X2_isOf (C_X2_isOf E) P PX K n 9 [some y0, l1] (y0 :: r) (σ, sz, k, c))) ∧
  (∀ (n : Nat) (l0 l1 : Option Value) (a : Nat) (r : List Value) (σ : zk_S) (sz k c : Nat), zk_run E (zk_VT E) M_X2_isOf (C_X2_isOf E) P PX K (n + 1) 9 [l0, l1] (.ref a :: r) (σ, sz, k, c) = zk_fld (zk_view E σ a) [1, 6] 1 (fun v => zk_run E (zk_VT E) M_X2_isOf (C_X2_isOf E) P PX K n 12 [l0, l1] (v :: r) (σ, sz, k, c))) ∧
  (∀ (n : Nat) (l0 : Option Value) (y1 : Value) (r : List Value) (σ : zk_S) (sz k c : Nat), zk_run E (zk_VT E) M_X2_isOf (C_X2_isOf E) P PX K (n + 1) 12 [l0, some y1] r (σ, sz, k, c) = (zk_isr y1 ∧ zk_run E (zk_VT E) M_X2_isOf (C_X2_isOf E) P PX K n 13 [l0, some y1] (y1 :: r) (σ, sz, k, c))) ∧
  (∀ (n : Nat) (l0 l1 : Option Value) (x y : Value) (r : List Value) (σ : zk_S) (sz k c : Nat), zk_run E (zk_VT E) M_X2_isOf (C_X2_isOf E) P PX K (n + 1) 13 [l0, l1] (y :: x :: r) (σ, sz, k, c) = (zk_isr x ∧ zk_isr y ∧ (¬ x = y → zk_run E (zk_VT E) M_X2_isOf (C_X2_isOf E) P PX K n 20 [l0, l1] r (σ, sz, k, c)) ∧ (¬ (¬ x = y) → zk_run E (zk_VT E) M_X2_isOf (C_X2_isOf E) P PX K n 16 [l0, l1] r (σ, sz, k, c)))) ∧
  (∀ (n : Nat) (l0 l1 : Option Value)  (r : List Value) (σ : zk_S) (sz k c : Nat), zk_run E (zk_VT E) M_X2_isOf (C_X2_isOf E) P PX K (n + 1) 16 [l0, l1] r (σ, sz, k, c) = zk_run E (zk_VT E) M_X2_isOf (C_X2_isOf E) P PX K n 17 [l0, l1] (.int (1) :: r) (σ, sz, k, c)) ∧
  (∀ (n : Nat) (l0 l1 : Option Value)  (r : List Value) (σ : zk_S) (sz k c : Nat), zk_run E (zk_VT E) M_X2_isOf (C_X2_isOf E) P PX K (n + 1) 17 [l0, l1] r (σ, sz, k, c) = zk_run E (zk_VT E) M_X2_isOf (C_X2_isOf E) P PX K n 21 [l0, l1] r (σ, sz, k, c)) ∧
  (∀ (n : Nat) (l0 l1 : Option Value)  (r : List Value) (σ : zk_S) (sz k c : Nat), zk_run E (zk_VT E) M_X2_isOf (C_X2_isOf E) P PX K (n + 1) 20 [l0, l1] r (σ, sz, k, c) = zk_run E (zk_VT E) M_X2_isOf (C_X2_isOf E) P PX K n 21 [l0, l1] (.int (0) :: r) (σ, sz, k, c)) ∧
  (∀ (n : Nat) (l0 l1 : Option Value) (x : Int32)  (σ : zk_S) (sz k c : Nat), zk_run E (zk_VT E) M_X2_isOf (C_X2_isOf E) P PX K (n + 1) 21 [l0, l1] [.int x] (σ, sz, k, c) = (zk_nok (some (.boolean)) x ∧ P (some (.int x)) σ sz ∧ k ≤ 0 ∧ c ≤ 0)) ∧
  (∀ (n : Nat) (l0 l1 : Option Value) (r : List Value) (w : zk_W zk_S), zk_go E (zk_VT E) M_X2_isOf (C_X2_isOf E) P PX K n 0 [l0, l1] r w = zk_run E (zk_VT E) M_X2_isOf (C_X2_isOf E) P PX K (n + 1) 0 [l0, l1] r w) := ⟨by intros; rfl, by intros; rfl, by intros; rfl, by intros; rfl, by intros; rfl, by intros; rfl, by intros; rfl, by intros; rfl, by intros; rfl, by intros; rfl, by intros; rfl, by intros; rfl, by intros; rfl⟩
theorem vc_X2_isOf (E : zk_E) : zk_VC E (zk_VT E) M_X2_isOf (C_X2_isOf E) 2 (sp_X2_isOf E) := by
  intro av σ sz P PX h
  obtain ⟨J, N, Q, O, U⟩ := σ
  unfold sp_X2_isOf at h
  split at h
  case h_2 => exact h.elim
  rename_i a r
  refine ⟨Nat.le_of_ble_eq_true rfl, fun G hG => ?_⟩
  change G 0 [some (.ref (a)), some (.ref r)] [] ((J, N, Q, O, U), sz, 0, 0)
  try dsimp only at h
  obtain ⟨ha, ⟨ci, f, t, mx, my, ln, fw, sh, rest, hci, hO⟩, h⟩ := h
  rw [hO] at h
  unfold x_of at h
  simp only [fR_X] at h
  unfold cX at hO
  rcases (Decidable.em (f = some r)).imp eq_true eq_false with q1 | q1
  · simp only [q1, decide_true, Bool.true_or] at h
    rcases hci with rfl | rfl
    · (refine hG 900 _ _ _ _ ?_; simp only [r_X2_isOf, zk_kl_none, zk_kl_int, zk_kl_ref, zk_kl_null, zk_kl_long, zk_kl_rf, zk_isr_ref, zk_isr_null, zk_isr_rf9, zk_c1_int, zk_c1_ref, zk_c1_null, zk_c1_rf, zk_psh_some, zk_psh_none, zk_nok_int, zk_nok_bool0, zk_nok_bool1, zk_nok_b, zk_fok_0, zk_fok_1, zk_fok_2, zk_fok_n, zk_fok_rf, zb_f, zb_p, zb_i, zb_a, zb_s, zk_nth_0, zk_nth_s, zk_fld_o, zk_put_o, zk_rv_eq, zk_ri_eq, zk_is_o, List.mem_cons, List.not_mem_nil, or_false, false_or, or_true, true_or, and_true, true_and, not_false_iff, not_true_eq_false, true_implies, false_implies, imp_self, implies_true, forall_const, zk_lit, zk_uj_ap, zk_un_ap, zk_un_un, zk_uj_uj, Nat.reduceEqDiff, eq_self, zk_bq, Bool.true_or, Bool.false_or, Nat.le_refl, Nat.zero_add, Nat.add_zero, Nat.reduceAdd, Nat.reduceLeDiff, Nat.le_zero_eq, and_self, and_false, false_and, ite_true, ite_false, Nat.zero_le, List.length_cons, List.length_nil, Option.some.injEq, forall_eq', reduceCtorEq, zk_vd ha, hO, va_rf_eq, q1])
      exact h
    · (refine hG 900 _ _ _ _ ?_; simp only [r_X2_isOf, zk_kl_none, zk_kl_int, zk_kl_ref, zk_kl_null, zk_kl_long, zk_kl_rf, zk_isr_ref, zk_isr_null, zk_isr_rf9, zk_c1_int, zk_c1_ref, zk_c1_null, zk_c1_rf, zk_psh_some, zk_psh_none, zk_nok_int, zk_nok_bool0, zk_nok_bool1, zk_nok_b, zk_fok_0, zk_fok_1, zk_fok_2, zk_fok_n, zk_fok_rf, zb_f, zb_p, zb_i, zb_a, zb_s, zk_nth_0, zk_nth_s, zk_fld_o, zk_put_o, zk_rv_eq, zk_ri_eq, zk_is_o, List.mem_cons, List.not_mem_nil, or_false, false_or, or_true, true_or, and_true, true_and, not_false_iff, not_true_eq_false, true_implies, false_implies, imp_self, implies_true, forall_const, zk_lit, zk_uj_ap, zk_un_ap, zk_un_un, zk_uj_uj, Nat.reduceEqDiff, eq_self, zk_bq, Bool.true_or, Bool.false_or, Nat.le_refl, Nat.zero_add, Nat.add_zero, Nat.reduceAdd, Nat.reduceLeDiff, Nat.le_zero_eq, and_self, and_false, false_and, ite_true, ite_false, Nat.zero_le, List.length_cons, List.length_nil, Option.some.injEq, forall_eq', reduceCtorEq, zk_vd ha, hO, va_rf_eq, q1])
      exact h
  · rcases (Decidable.em (t = some r)).imp eq_true eq_false with q2 | q2
    · simp only [q1, q2, decide_true, Bool.or_true] at h
      rcases hci with rfl | rfl
      · (refine hG 900 _ _ _ _ ?_; simp only [r_X2_isOf, zk_kl_none, zk_kl_int, zk_kl_ref, zk_kl_null, zk_kl_long, zk_kl_rf, zk_isr_ref, zk_isr_null, zk_isr_rf9, zk_c1_int, zk_c1_ref, zk_c1_null, zk_c1_rf, zk_psh_some, zk_psh_none, zk_nok_int, zk_nok_bool0, zk_nok_bool1, zk_nok_b, zk_fok_0, zk_fok_1, zk_fok_2, zk_fok_n, zk_fok_rf, zb_f, zb_p, zb_i, zb_a, zb_s, zk_nth_0, zk_nth_s, zk_fld_o, zk_put_o, zk_rv_eq, zk_ri_eq, zk_is_o, List.mem_cons, List.not_mem_nil, or_false, false_or, or_true, true_or, and_true, true_and, not_false_iff, not_true_eq_false, true_implies, false_implies, imp_self, implies_true, forall_const, zk_lit, zk_uj_ap, zk_un_ap, zk_un_un, zk_uj_uj, Nat.reduceEqDiff, eq_self, zk_bq, Bool.true_or, Bool.false_or, Nat.le_refl, Nat.zero_add, Nat.add_zero, Nat.reduceAdd, Nat.reduceLeDiff, Nat.le_zero_eq, and_self, and_false, false_and, ite_true, ite_false, Nat.zero_le, List.length_cons, List.length_nil, Option.some.injEq, forall_eq', reduceCtorEq, zk_vd ha, hO, va_rf_eq, q1, q2])
        exact h
      · (refine hG 900 _ _ _ _ ?_; simp only [r_X2_isOf, zk_kl_none, zk_kl_int, zk_kl_ref, zk_kl_null, zk_kl_long, zk_kl_rf, zk_isr_ref, zk_isr_null, zk_isr_rf9, zk_c1_int, zk_c1_ref, zk_c1_null, zk_c1_rf, zk_psh_some, zk_psh_none, zk_nok_int, zk_nok_bool0, zk_nok_bool1, zk_nok_b, zk_fok_0, zk_fok_1, zk_fok_2, zk_fok_n, zk_fok_rf, zb_f, zb_p, zb_i, zb_a, zb_s, zk_nth_0, zk_nth_s, zk_fld_o, zk_put_o, zk_rv_eq, zk_ri_eq, zk_is_o, List.mem_cons, List.not_mem_nil, or_false, false_or, or_true, true_or, and_true, true_and, not_false_iff, not_true_eq_false, true_implies, false_implies, imp_self, implies_true, forall_const, zk_lit, zk_uj_ap, zk_un_ap, zk_un_un, zk_uj_uj, Nat.reduceEqDiff, eq_self, zk_bq, Bool.true_or, Bool.false_or, Nat.le_refl, Nat.zero_add, Nat.add_zero, Nat.reduceAdd, Nat.reduceLeDiff, Nat.le_zero_eq, and_self, and_false, false_and, ite_true, ite_false, Nat.zero_le, List.length_cons, List.length_nil, Option.some.injEq, forall_eq', reduceCtorEq, zk_vd ha, hO, va_rf_eq, q1, q2])
        exact h
    · simp only [q1, q2, decide_false, Bool.or_self] at h
      rcases hci with rfl | rfl
      · (refine hG 900 _ _ _ _ ?_; simp only [r_X2_isOf, zk_kl_none, zk_kl_int, zk_kl_ref, zk_kl_null, zk_kl_long, zk_kl_rf, zk_isr_ref, zk_isr_null, zk_isr_rf9, zk_c1_int, zk_c1_ref, zk_c1_null, zk_c1_rf, zk_psh_some, zk_psh_none, zk_nok_int, zk_nok_bool0, zk_nok_bool1, zk_nok_b, zk_fok_0, zk_fok_1, zk_fok_2, zk_fok_n, zk_fok_rf, zb_f, zb_p, zb_i, zb_a, zb_s, zk_nth_0, zk_nth_s, zk_fld_o, zk_put_o, zk_rv_eq, zk_ri_eq, zk_is_o, List.mem_cons, List.not_mem_nil, or_false, false_or, or_true, true_or, and_true, true_and, not_false_iff, not_true_eq_false, true_implies, false_implies, imp_self, implies_true, forall_const, zk_lit, zk_uj_ap, zk_un_ap, zk_un_un, zk_uj_uj, Nat.reduceEqDiff, eq_self, zk_bq, Bool.true_or, Bool.false_or, Nat.le_refl, Nat.zero_add, Nat.add_zero, Nat.reduceAdd, Nat.reduceLeDiff, Nat.le_zero_eq, and_self, and_false, false_and, ite_true, ite_false, Nat.zero_le, List.length_cons, List.length_nil, Option.some.injEq, forall_eq', reduceCtorEq, zk_vd ha, hO, va_rf_eq, q1, q2])
        exact h
      · (refine hG 900 _ _ _ _ ?_; simp only [r_X2_isOf, zk_kl_none, zk_kl_int, zk_kl_ref, zk_kl_null, zk_kl_long, zk_kl_rf, zk_isr_ref, zk_isr_null, zk_isr_rf9, zk_c1_int, zk_c1_ref, zk_c1_null, zk_c1_rf, zk_psh_some, zk_psh_none, zk_nok_int, zk_nok_bool0, zk_nok_bool1, zk_nok_b, zk_fok_0, zk_fok_1, zk_fok_2, zk_fok_n, zk_fok_rf, zb_f, zb_p, zb_i, zb_a, zb_s, zk_nth_0, zk_nth_s, zk_fld_o, zk_put_o, zk_rv_eq, zk_ri_eq, zk_is_o, List.mem_cons, List.not_mem_nil, or_false, false_or, or_true, true_or, and_true, true_and, not_false_iff, not_true_eq_false, true_implies, false_implies, imp_self, implies_true, forall_const, zk_lit, zk_uj_ap, zk_un_ap, zk_un_un, zk_uj_uj, Nat.reduceEqDiff, eq_self, zk_bq, Bool.true_or, Bool.false_or, Nat.le_refl, Nat.zero_add, Nat.add_zero, Nat.reduceAdd, Nat.reduceLeDiff, Nat.le_zero_eq, and_self, and_false, false_and, ite_true, ite_false, Nat.zero_le, List.length_cons, List.length_nil, Option.some.injEq, forall_eq', reduceCtorEq, zk_vd ha, hO, va_rf_eq, q1, q2])
        exact h
theorem ct_X2_isOf {l : Launch} (hl : l.stackTraces = false) (E : zk_E) : zk_C l E (zk_VT E) yX2_isOf cX2_isOf 2 (some (.boolean)) rm_X2_isOf (sp_X2_isOf E) := by
  refine zk_meth (M := M_X2_isOf) (C := C_X2_isOf E) hl (by decide +kernel) rfl (fun _ _ => rfl) (zk_VT_ok E) MO_X2_isOf TO_X2_isOf THo_X2_isOf ?_ (vc_X2_isOf E)
  exact fun p e s m args below meth c X pc n mc ms sp2 h => absurd (zk_lka_mem h) List.not_mem_nil
def sp_X2_otherThan (E : zk_E) : zk_Sp zk_S := fun av σ sz P PX => match av with
  | [.ref a, .ref r] => E.1 + 28 ≤ a ∧ isX (σ.2.2.2.1 a) ∧ P (some (va_rf (x_oth (σ.2.2.2.1 a) r))) σ sz
  | _ => False
theorem spe_X2_otherThan (E : zk_E) (a : Nat) (r : Nat) (σ : zk_S) (sz : Nat) (P : zk_P zk_S) (PX : zk_X zk_S) : sp_X2_otherThan E [.ref a, .ref r] σ sz P PX = (E.1 + 28 ≤ a ∧ isX (σ.2.2.2.1 a) ∧ P (some (va_rf (x_oth (σ.2.2.2.1 a) r))) σ sz) := propext Iff.rfl
def C_X2_otherThan (E : zk_E) : zk_Cl zk_S := zk_lka []
theorem r_X2_otherThan (E : zk_E) (P : zk_P zk_S) (PX : zk_X zk_S) (K : Nat → zk_L → List Value → zk_W zk_S → Prop) : (∀ (n : Nat) (l1 : Option Value) (y0 : Value) (r : List Value) (σ : zk_S) (sz k c : Nat), zk_run E (zk_VT E) M_X2_otherThan (C_X2_otherThan E) P PX K (n + 1) 0 [some y0, l1] r (σ, sz, k, c) = (zk_isr y0 ∧ zk_run E (zk_VT E) M_X2_otherThan (C_X2_otherThan E) P PX K n 1 [some y0, l1] (y0 :: r) (σ, sz, k, c))) ∧
  (∀ (n : Nat) (l0 l1 : Option Value) (a : Nat) (r : List Value) (σ : zk_S) (sz k c : Nat), zk_run E (zk_VT E) M_X2_otherThan (C_X2_otherThan E) P PX K (n + 1) 1 [l0, l1] (.ref a :: r) (σ, sz, k, c) = zk_fld (zk_view E σ a) [1, 6] 0 (fun v => zk_run E (zk_VT E) M_X2_otherThan (C_X2_otherThan E) P PX K n 4 [l0, l1] (v :: r) (σ, sz, k, c))) ∧
  (∀ (n : Nat) (l0 : Option Value) (y1 : Value) (r : List Value) (σ : zk_S) (sz k c : Nat), zk_run E (zk_VT E) M_X2_otherThan (C_X2_otherThan E) P PX K (n + 1) 4 [l0, some y1] r (σ, sz, k, c) = (zk_isr y1 ∧ zk_run E (zk_VT E) M_X2_otherThan (C_X2_otherThan E) P PX K n 5 [l0, some y1] (y1 :: r) (σ, sz, k, c))) ∧
  (∀ (n : Nat) (l0 l1 : Option Value) (x y : Value) (r : List Value) (σ : zk_S) (sz k c : Nat), zk_run E (zk_VT E) M_X2_otherThan (C_X2_otherThan E) P PX K (n + 1) 5 [l0, l1] (y :: x :: r) (σ, sz, k, c) = (zk_isr x ∧ zk_isr y ∧ (¬ x = y → zk_run E (zk_VT E) M_X2_otherThan (C_X2_otherThan E) P PX K n 15 [l0, l1] r (σ, sz, k, c)) ∧ (¬ (¬ x = y) → zk_run E (zk_VT E) M_X2_otherThan (C_X2_otherThan E) P PX K n 8 [l0, l1] r (σ, sz, k, c)))) ∧
  (∀ (n : Nat) (l1 : Option Value) (y0 : Value) (r : List Value) (σ : zk_S) (sz k c : Nat), zk_run E (zk_VT E) M_X2_otherThan (C_X2_otherThan E) P PX K (n + 1) 8 [some y0, l1] r (σ, sz, k, c) = (zk_isr y0 ∧ zk_run E (zk_VT E) M_X2_otherThan (C_X2_otherThan E) P PX K n 9 [some y0, l1] (y0 :: r) (σ, sz, k, c))) ∧
  (∀ (n : Nat) (l0 l1 : Option Value) (a : Nat) (r : List Value) (σ : zk_S) (sz k c : Nat), zk_run E (zk_VT E) M_X2_otherThan (C_X2_otherThan E) P PX K (n + 1) 9 [l0, l1] (.ref a :: r) (σ, sz, k, c) = zk_fld (zk_view E σ a) [1, 6] 1 (fun v => zk_run E (zk_VT E) M_X2_otherThan (C_X2_otherThan E) P PX K n 12 [l0, l1] (v :: r) (σ, sz, k, c))) ∧
  (∀ (n : Nat) (l0 l1 : Option Value)  (r : List Value) (σ : zk_S) (sz k c : Nat), zk_run E (zk_VT E) M_X2_otherThan (C_X2_otherThan E) P PX K (n + 1) 12 [l0, l1] r (σ, sz, k, c) = zk_run E (zk_VT E) M_X2_otherThan (C_X2_otherThan E) P PX K n 19 [l0, l1] r (σ, sz, k, c)) ∧
  (∀ (n : Nat) (l1 : Option Value) (y0 : Value) (r : List Value) (σ : zk_S) (sz k c : Nat), zk_run E (zk_VT E) M_X2_otherThan (C_X2_otherThan E) P PX K (n + 1) 15 [some y0, l1] r (σ, sz, k, c) = (zk_isr y0 ∧ zk_run E (zk_VT E) M_X2_otherThan (C_X2_otherThan E) P PX K n 16 [some y0, l1] (y0 :: r) (σ, sz, k, c))) ∧
  (∀ (n : Nat) (l0 l1 : Option Value) (a : Nat) (r : List Value) (σ : zk_S) (sz k c : Nat), zk_run E (zk_VT E) M_X2_otherThan (C_X2_otherThan E) P PX K (n + 1) 16 [l0, l1] (.ref a :: r) (σ, sz, k, c) = zk_fld (zk_view E σ a) [1, 6] 0 (fun v => zk_run E (zk_VT E) M_X2_otherThan (C_X2_otherThan E) P PX K n 19 [l0, l1] (v :: r) (σ, sz, k, c))) ∧
  (∀ (n : Nat) (l0 l1 : Option Value) (x : Value)  (σ : zk_S) (sz k c : Nat), zk_run E (zk_VT E) M_X2_otherThan (C_X2_otherThan E) P PX K (n + 1) 19 [l0, l1] [x] (σ, sz, k, c) = (zk_isr x ∧ P (some (x)) σ sz ∧ k ≤ 0 ∧ c ≤ 0)) ∧
  (∀ (n : Nat) (l0 l1 : Option Value) (r : List Value) (w : zk_W zk_S), zk_go E (zk_VT E) M_X2_otherThan (C_X2_otherThan E) P PX K n 0 [l0, l1] r w = zk_run E (zk_VT E) M_X2_otherThan (C_X2_otherThan E) P PX K (n + 1) 0 [l0, l1] r w) := ⟨by intros; rfl, by intros; rfl, by intros; rfl, by intros; rfl, by intros; rfl, by intros; rfl, by intros; rfl, by intros; rfl, by intros; rfl, by intros; rfl, by intros; rfl⟩
theorem vc_X2_otherThan (E : zk_E) : zk_VC E (zk_VT E) M_X2_otherThan (C_X2_otherThan E) 2 (sp_X2_otherThan E) := by
  intro av σ sz P PX h
  obtain ⟨J, N, Q, O, U⟩ := σ
  unfold sp_X2_otherThan at h
  split at h
  case h_2 => exact h.elim
  rename_i a r
  refine ⟨Nat.le_of_ble_eq_true rfl, fun G hG => ?_⟩
  change G 0 [some (.ref (a)), some (.ref r)] [] ((J, N, Q, O, U), sz, 0, 0)
  try dsimp only at h
  obtain ⟨ha, ⟨ci, f, t, mx, my, ln, fw, sh, rest, hci, hO⟩, h⟩ := h
  rw [hO] at h
  unfold x_oth at h
  simp only [fR_X] at h
  unfold cX at hO
  rcases (Decidable.em (f = some r)) with q1 | q1
  · rw [if_pos q1] at h
    have q1 := eq_true q1
    rcases hci with rfl | rfl
    · (refine hG 900 _ _ _ _ ?_; simp only [r_X2_otherThan, zk_kl_none, zk_kl_int, zk_kl_ref, zk_kl_null, zk_kl_long, zk_kl_rf, zk_isr_ref, zk_isr_null, zk_isr_rf9, zk_c1_int, zk_c1_ref, zk_c1_null, zk_c1_rf, zk_psh_some, zk_psh_none, zk_nok_int, zk_nok_bool0, zk_nok_bool1, zk_nok_b, zk_fok_0, zk_fok_1, zk_fok_2, zk_fok_n, zk_fok_rf, zb_f, zb_p, zb_i, zb_a, zb_s, zk_nth_0, zk_nth_s, zk_fld_o, zk_put_o, zk_rv_eq, zk_ri_eq, zk_is_o, List.mem_cons, List.not_mem_nil, or_false, false_or, or_true, true_or, and_true, true_and, not_false_iff, not_true_eq_false, true_implies, false_implies, imp_self, implies_true, forall_const, zk_lit, zk_uj_ap, zk_un_ap, zk_un_un, zk_uj_uj, Nat.reduceEqDiff, eq_self, zk_bq, Bool.true_or, Bool.false_or, Nat.le_refl, Nat.zero_add, Nat.add_zero, Nat.reduceAdd, Nat.reduceLeDiff, Nat.le_zero_eq, and_self, and_false, false_and, ite_true, ite_false, Nat.zero_le, List.length_cons, List.length_nil, Option.some.injEq, forall_eq', reduceCtorEq, zk_vd ha, hO, va_rf_eq, q1])
      exact h
    · (refine hG 900 _ _ _ _ ?_; simp only [r_X2_otherThan, zk_kl_none, zk_kl_int, zk_kl_ref, zk_kl_null, zk_kl_long, zk_kl_rf, zk_isr_ref, zk_isr_null, zk_isr_rf9, zk_c1_int, zk_c1_ref, zk_c1_null, zk_c1_rf, zk_psh_some, zk_psh_none, zk_nok_int, zk_nok_bool0, zk_nok_bool1, zk_nok_b, zk_fok_0, zk_fok_1, zk_fok_2, zk_fok_n, zk_fok_rf, zb_f, zb_p, zb_i, zb_a, zb_s, zk_nth_0, zk_nth_s, zk_fld_o, zk_put_o, zk_rv_eq, zk_ri_eq, zk_is_o, List.mem_cons, List.not_mem_nil, or_false, false_or, or_true, true_or, and_true, true_and, not_false_iff, not_true_eq_false, true_implies, false_implies, imp_self, implies_true, forall_const, zk_lit, zk_uj_ap, zk_un_ap, zk_un_un, zk_uj_uj, Nat.reduceEqDiff, eq_self, zk_bq, Bool.true_or, Bool.false_or, Nat.le_refl, Nat.zero_add, Nat.add_zero, Nat.reduceAdd, Nat.reduceLeDiff, Nat.le_zero_eq, and_self, and_false, false_and, ite_true, ite_false, Nat.zero_le, List.length_cons, List.length_nil, Option.some.injEq, forall_eq', reduceCtorEq, zk_vd ha, hO, va_rf_eq, q1])
      exact h
  · rw [if_neg q1] at h
    have q1 := eq_false q1
    rcases hci with rfl | rfl
    · (refine hG 900 _ _ _ _ ?_; simp only [r_X2_otherThan, zk_kl_none, zk_kl_int, zk_kl_ref, zk_kl_null, zk_kl_long, zk_kl_rf, zk_isr_ref, zk_isr_null, zk_isr_rf9, zk_c1_int, zk_c1_ref, zk_c1_null, zk_c1_rf, zk_psh_some, zk_psh_none, zk_nok_int, zk_nok_bool0, zk_nok_bool1, zk_nok_b, zk_fok_0, zk_fok_1, zk_fok_2, zk_fok_n, zk_fok_rf, zb_f, zb_p, zb_i, zb_a, zb_s, zk_nth_0, zk_nth_s, zk_fld_o, zk_put_o, zk_rv_eq, zk_ri_eq, zk_is_o, List.mem_cons, List.not_mem_nil, or_false, false_or, or_true, true_or, and_true, true_and, not_false_iff, not_true_eq_false, true_implies, false_implies, imp_self, implies_true, forall_const, zk_lit, zk_uj_ap, zk_un_ap, zk_un_un, zk_uj_uj, Nat.reduceEqDiff, eq_self, zk_bq, Bool.true_or, Bool.false_or, Nat.le_refl, Nat.zero_add, Nat.add_zero, Nat.reduceAdd, Nat.reduceLeDiff, Nat.le_zero_eq, and_self, and_false, false_and, ite_true, ite_false, Nat.zero_le, List.length_cons, List.length_nil, Option.some.injEq, forall_eq', reduceCtorEq, zk_vd ha, hO, va_rf_eq, q1])
      exact h
    · (refine hG 900 _ _ _ _ ?_; simp only [r_X2_otherThan, zk_kl_none, zk_kl_int, zk_kl_ref, zk_kl_null, zk_kl_long, zk_kl_rf, zk_isr_ref, zk_isr_null, zk_isr_rf9, zk_c1_int, zk_c1_ref, zk_c1_null, zk_c1_rf, zk_psh_some, zk_psh_none, zk_nok_int, zk_nok_bool0, zk_nok_bool1, zk_nok_b, zk_fok_0, zk_fok_1, zk_fok_2, zk_fok_n, zk_fok_rf, zb_f, zb_p, zb_i, zb_a, zb_s, zk_nth_0, zk_nth_s, zk_fld_o, zk_put_o, zk_rv_eq, zk_ri_eq, zk_is_o, List.mem_cons, List.not_mem_nil, or_false, false_or, or_true, true_or, and_true, true_and, not_false_iff, not_true_eq_false, true_implies, false_implies, imp_self, implies_true, forall_const, zk_lit, zk_uj_ap, zk_un_ap, zk_un_un, zk_uj_uj, Nat.reduceEqDiff, eq_self, zk_bq, Bool.true_or, Bool.false_or, Nat.le_refl, Nat.zero_add, Nat.add_zero, Nat.reduceAdd, Nat.reduceLeDiff, Nat.le_zero_eq, and_self, and_false, false_and, ite_true, ite_false, Nat.zero_le, List.length_cons, List.length_nil, Option.some.injEq, forall_eq', reduceCtorEq, zk_vd ha, hO, va_rf_eq, q1])
      exact h
theorem ct_X2_otherThan {l : Launch} (hl : l.stackTraces = false) (E : zk_E) : zk_C l E (zk_VT E) yX2_otherThan cX2_otherThan 2 (some ((.object "ClerestoryPlan$Room"))) rm_X2_otherThan (sp_X2_otherThan E) := by
  refine zk_meth (M := M_X2_otherThan) (C := C_X2_otherThan E) hl (by decide +kernel) rfl (fun _ _ => rfl) (zk_VT_ok E) MO_X2_otherThan TO_X2_otherThan THo_X2_otherThan ?_ (vc_X2_otherThan E)
  exact fun p e s m args below meth c X pc n mc ms sp2 h => absurd (zk_lka_mem h) List.not_mem_nil
def sp_X2_distanceTo (E : zk_E) : zk_Sp zk_S := fun av σ sz P PX => match av with
  | [.ref a, .int x, .int y] => E.1 + 28 ≤ a ∧ isX (σ.2.2.2.1 a) ∧ P (some (.int (i_abs (fI (σ.2.2.2.1 a) 2 - x) + i_abs (fI (σ.2.2.2.1 a) 3 - y)))) σ sz
  | _ => False
theorem spe_X2_distanceTo (E : zk_E) (a : Nat) (x : Int32) (y : Int32) (σ : zk_S) (sz : Nat) (P : zk_P zk_S) (PX : zk_X zk_S) : sp_X2_distanceTo E [.ref a, .int x, .int y] σ sz P PX = (E.1 + 28 ≤ a ∧ isX (σ.2.2.2.1 a) ∧ P (some (.int (i_abs (fI (σ.2.2.2.1 a) 2 - x) + i_abs (fI (σ.2.2.2.1 a) 3 - y)))) σ sz) := propext Iff.rfl
def C_X2_distanceTo (E : zk_E) : zk_Cl zk_S := zk_lka []
theorem r_X2_distanceTo (E : zk_E) (P : zk_P zk_S) (PX : zk_X zk_S) (K : Nat → zk_L → List Value → zk_W zk_S → Prop) : (∀ (n : Nat) (l1 l2 : Option Value) (y0 : Value) (r : List Value) (σ : zk_S) (sz k c : Nat), zk_run E (zk_VT E) M_X2_distanceTo (C_X2_distanceTo E) P PX K (n + 1) 0 [some y0, l1, l2] r (σ, sz, k, c) = (zk_isr y0 ∧ zk_run E (zk_VT E) M_X2_distanceTo (C_X2_distanceTo E) P PX K n 1 [some y0, l1, l2] (y0 :: r) (σ, sz, k, c))) ∧
  (∀ (n : Nat) (l0 l1 l2 : Option Value) (a : Nat) (r : List Value) (σ : zk_S) (sz k c : Nat), zk_run E (zk_VT E) M_X2_distanceTo (C_X2_distanceTo E) P PX K (n + 1) 1 [l0, l1, l2] (.ref a :: r) (σ, sz, k, c) = zk_fld (zk_view E σ a) [1, 6] 2 (fun v => zk_run E (zk_VT E) M_X2_distanceTo (C_X2_distanceTo E) P PX K n 4 [l0, l1, l2] (v :: r) (σ, sz, k, c))) ∧
  (∀ (n : Nat) (l0 l2 : Option Value) (y1 : Int32) (r : List Value) (σ : zk_S) (sz k c : Nat), zk_run E (zk_VT E) M_X2_distanceTo (C_X2_distanceTo E) P PX K (n + 1) 4 [l0, some (.int y1), l2] r (σ, sz, k, c) = zk_run E (zk_VT E) M_X2_distanceTo (C_X2_distanceTo E) P PX K n 5 [l0, some (.int y1), l2] (.int y1 :: r) (σ, sz, k, c)) ∧
  (∀ (n : Nat) (l0 l1 l2 : Option Value) (x y : Int32) (r : List Value) (σ : zk_S) (sz k c : Nat), zk_run E (zk_VT E) M_X2_distanceTo (C_X2_distanceTo E) P PX K (n + 1) 5 [l0, l1, l2] (.int y :: .int x :: r) (σ, sz, k, c) = zk_run E (zk_VT E) M_X2_distanceTo (C_X2_distanceTo E) P PX K n 6 [l0, l1, l2] (.int (x - y) :: r) (σ, sz, k, c)) ∧
  (∀ (n : Nat) (l0 l1 l2 : Option Value) (x : Int32)  (σ : zk_S) (sz k c : Nat), zk_run E (zk_VT E) M_X2_distanceTo (C_X2_distanceTo E) P PX K (n + 1) 6 [l0, l1, l2] (.int x :: []) (σ, sz, k, c) = (([] : List Value).length ≤ 4 ∧ k ≤ 0 ∧ c ≤ 0 ∧ zk_run E (zk_VT E) M_X2_distanceTo (C_X2_distanceTo E) P PX K n 9 [l0, l1, l2] (.int (i_abs x) :: []) (σ, sz, k, c))) ∧
  (∀ (n : Nat) (l1 l2 : Option Value) (y0 : Value) (r : List Value) (σ : zk_S) (sz k c : Nat), zk_run E (zk_VT E) M_X2_distanceTo (C_X2_distanceTo E) P PX K (n + 1) 9 [some y0, l1, l2] r (σ, sz, k, c) = (zk_isr y0 ∧ zk_run E (zk_VT E) M_X2_distanceTo (C_X2_distanceTo E) P PX K n 10 [some y0, l1, l2] (y0 :: r) (σ, sz, k, c))) ∧
  (∀ (n : Nat) (l0 l1 l2 : Option Value) (a : Nat) (r : List Value) (σ : zk_S) (sz k c : Nat), zk_run E (zk_VT E) M_X2_distanceTo (C_X2_distanceTo E) P PX K (n + 1) 10 [l0, l1, l2] (.ref a :: r) (σ, sz, k, c) = zk_fld (zk_view E σ a) [1, 6] 3 (fun v => zk_run E (zk_VT E) M_X2_distanceTo (C_X2_distanceTo E) P PX K n 13 [l0, l1, l2] (v :: r) (σ, sz, k, c))) ∧
  (∀ (n : Nat) (l0 l1 : Option Value) (y2 : Int32) (r : List Value) (σ : zk_S) (sz k c : Nat), zk_run E (zk_VT E) M_X2_distanceTo (C_X2_distanceTo E) P PX K (n + 1) 13 [l0, l1, some (.int y2)] r (σ, sz, k, c) = zk_run E (zk_VT E) M_X2_distanceTo (C_X2_distanceTo E) P PX K n 14 [l0, l1, some (.int y2)] (.int y2 :: r) (σ, sz, k, c)) ∧
  (∀ (n : Nat) (l0 l1 l2 : Option Value) (x y : Int32) (r : List Value) (σ : zk_S) (sz k c : Nat), zk_run E (zk_VT E) M_X2_distanceTo (C_X2_distanceTo E) P PX K (n + 1) 14 [l0, l1, l2] (.int y :: .int x :: r) (σ, sz, k, c) = zk_run E (zk_VT E) M_X2_distanceTo (C_X2_distanceTo E) P PX K n 15 [l0, l1, l2] (.int (x - y) :: r) (σ, sz, k, c)) ∧
  (∀ (n : Nat) (l0 l1 l2 : Option Value) (x : Int32) (v0 : Value)  (σ : zk_S) (sz k c : Nat), zk_run E (zk_VT E) M_X2_distanceTo (C_X2_distanceTo E) P PX K (n + 1) 15 [l0, l1, l2] (.int x :: [v0]) (σ, sz, k, c) = (([v0] : List Value).length ≤ 4 ∧ k ≤ 0 ∧ c ≤ 0 ∧ zk_run E (zk_VT E) M_X2_distanceTo (C_X2_distanceTo E) P PX K n 18 [l0, l1, l2] (.int (i_abs x) :: [v0]) (σ, sz, k, c))) ∧
  (∀ (n : Nat) (l0 l1 l2 : Option Value) (x y : Int32) (r : List Value) (σ : zk_S) (sz k c : Nat), zk_run E (zk_VT E) M_X2_distanceTo (C_X2_distanceTo E) P PX K (n + 1) 18 [l0, l1, l2] (.int y :: .int x :: r) (σ, sz, k, c) = zk_run E (zk_VT E) M_X2_distanceTo (C_X2_distanceTo E) P PX K n 19 [l0, l1, l2] (.int (x + y) :: r) (σ, sz, k, c)) ∧
  (∀ (n : Nat) (l0 l1 l2 : Option Value) (x : Int32)  (σ : zk_S) (sz k c : Nat), zk_run E (zk_VT E) M_X2_distanceTo (C_X2_distanceTo E) P PX K (n + 1) 19 [l0, l1, l2] [.int x] (σ, sz, k, c) = (zk_nok (some (.int)) x ∧ P (some (.int x)) σ sz ∧ k ≤ 0 ∧ c ≤ 0)) ∧
  (∀ (n : Nat) (l0 l1 l2 : Option Value) (r : List Value) (w : zk_W zk_S), zk_go E (zk_VT E) M_X2_distanceTo (C_X2_distanceTo E) P PX K n 0 [l0, l1, l2] r w = zk_run E (zk_VT E) M_X2_distanceTo (C_X2_distanceTo E) P PX K (n + 1) 0 [l0, l1, l2] r w) := ⟨by intros; rfl, by intros; rfl, by intros; rfl, by intros; rfl, by intros; rfl, by intros; rfl, by intros; rfl, by intros; rfl, by intros; rfl, by intros; rfl, by intros; rfl, by intros; rfl, by intros; rfl⟩
theorem vc_X2_distanceTo (E : zk_E) : zk_VC E (zk_VT E) M_X2_distanceTo (C_X2_distanceTo E) 3 (sp_X2_distanceTo E) := by
  intro av σ sz P PX h
  obtain ⟨J, N, Q, O, U⟩ := σ
  unfold sp_X2_distanceTo at h
  split at h
  case h_2 => exact h.elim
  rename_i a x y
  refine ⟨Nat.le_of_ble_eq_true rfl, fun G hG => ?_⟩
  change G 0 [some (.ref (a)), some (.int x), some (.int y)] [] ((J, N, Q, O, U), sz, 0, 0)
  try dsimp only at h
  obtain ⟨ha, ⟨ci, f, t, mx, my, ln, fw, sh, rest, hci, hO⟩, h⟩ := h
  rw [hO] at h
  simp only [fI_X] at h
  unfold cX at hO
  rcases hci with rfl | rfl
  · (refine hG 900 _ _ _ _ ?_; simp only [r_X2_distanceTo, zk_kl_none, zk_kl_int, zk_kl_ref, zk_kl_null, zk_kl_long, zk_kl_rf, zk_isr_ref, zk_isr_null, zk_isr_rf9, zk_c1_int, zk_c1_ref, zk_c1_null, zk_c1_rf, zk_psh_some, zk_psh_none, zk_nok_int, zk_nok_bool0, zk_nok_bool1, zk_nok_b, zk_fok_0, zk_fok_1, zk_fok_2, zk_fok_n, zk_fok_rf, zb_f, zb_p, zb_i, zb_a, zb_s, zk_nth_0, zk_nth_s, zk_fld_o, zk_put_o, zk_rv_eq, zk_ri_eq, zk_is_o, List.mem_cons, List.not_mem_nil, or_false, false_or, or_true, true_or, and_true, true_and, not_false_iff, not_true_eq_false, true_implies, false_implies, imp_self, implies_true, forall_const, zk_lit, zk_uj_ap, zk_un_ap, zk_un_un, zk_uj_uj, Nat.reduceEqDiff, eq_self, zk_bq, Bool.true_or, Bool.false_or, Nat.le_refl, Nat.zero_add, Nat.add_zero, Nat.reduceAdd, Nat.reduceLeDiff, Nat.le_zero_eq, and_self, and_false, false_and, ite_true, ite_false, Nat.zero_le, List.length_cons, List.length_nil, Option.some.injEq, forall_eq', reduceCtorEq, zk_vd ha, hO])
    exact h
  · (refine hG 900 _ _ _ _ ?_; simp only [r_X2_distanceTo, zk_kl_none, zk_kl_int, zk_kl_ref, zk_kl_null, zk_kl_long, zk_kl_rf, zk_isr_ref, zk_isr_null, zk_isr_rf9, zk_c1_int, zk_c1_ref, zk_c1_null, zk_c1_rf, zk_psh_some, zk_psh_none, zk_nok_int, zk_nok_bool0, zk_nok_bool1, zk_nok_b, zk_fok_0, zk_fok_1, zk_fok_2, zk_fok_n, zk_fok_rf, zb_f, zb_p, zb_i, zb_a, zb_s, zk_nth_0, zk_nth_s, zk_fld_o, zk_put_o, zk_rv_eq, zk_ri_eq, zk_is_o, List.mem_cons, List.not_mem_nil, or_false, false_or, or_true, true_or, and_true, true_and, not_false_iff, not_true_eq_false, true_implies, false_implies, imp_self, implies_true, forall_const, zk_lit, zk_uj_ap, zk_un_ap, zk_un_un, zk_uj_uj, Nat.reduceEqDiff, eq_self, zk_bq, Bool.true_or, Bool.false_or, Nat.le_refl, Nat.zero_add, Nat.add_zero, Nat.reduceAdd, Nat.reduceLeDiff, Nat.le_zero_eq, and_self, and_false, false_and, ite_true, ite_false, Nat.zero_le, List.length_cons, List.length_nil, Option.some.injEq, forall_eq', reduceCtorEq, zk_vd ha, hO])
    exact h
theorem ct_X2_distanceTo {l : Launch} (hl : l.stackTraces = false) (E : zk_E) : zk_C l E (zk_VT E) yX2_distanceTo cX2_distanceTo 3 (some (.int)) rm_X2_distanceTo (sp_X2_distanceTo E) := by
  refine zk_meth (M := M_X2_distanceTo) (C := C_X2_distanceTo E) hl (by decide +kernel) rfl (fun _ _ => rfl) (zk_VT_ok E) MO_X2_distanceTo TO_X2_distanceTo THo_X2_distanceTo ?_ (vc_X2_distanceTo E)
  exact fun p e s m args below meth c X pc n mc ms sp2 h => absurd (zk_lka_mem h) List.not_mem_nil
/-- the exits by their index -/
def xat (Q : Nat → Nat → Option Nat) (i : Nat) : Option Nat := if i < 40 then Q 3 i else Q 5 (i - 40)
def sp_X5_exitAt (E : zk_E) : zk_Sp zk_S := fun av σ sz P PX => match av with
  | [.ref a, .int i] => a = zk_ad E 1 ∧ (m_isIn i 0 49 = false → P (some .null) σ sz) ∧ (m_isIn i 0 49 = true → P (some (va_rf (xat σ.2.2.1 i.toNatClampNeg))) σ sz)
  | _ => False
theorem spe_X5_exitAt (E : zk_E) (a : Nat) (i : Int32) (σ : zk_S) (sz : Nat) (P : zk_P zk_S) (PX : zk_X zk_S) : sp_X5_exitAt E [.ref a, .int i] σ sz P PX = (a = zk_ad E 1 ∧ (m_isIn i 0 49 = false → P (some .null) σ sz) ∧ (m_isIn i 0 49 = true → P (some (va_rf (xat σ.2.2.1 i.toNatClampNeg))) σ sz)) := propext Iff.rfl
def C_X5_exitAt (E : zk_E) : zk_Cl zk_S := zk_lka []
theorem r_X5_exitAt (E : zk_E) (P : zk_P zk_S) (PX : zk_X zk_S) (K : Nat → zk_L → List Value → zk_W zk_S → Prop) : (∀ (n : Nat) (l0 : Option Value) (y1 : Int32) (r : List Value) (σ : zk_S) (sz k c : Nat), zk_run E (zk_VT E) M_X5_exitAt (C_X5_exitAt E) P PX K (n + 1) 0 [l0, some (.int y1)] r (σ, sz, k, c) = zk_run E (zk_VT E) M_X5_exitAt (C_X5_exitAt E) P PX K n 1 [l0, some (.int y1)] (.int y1 :: r) (σ, sz, k, c)) ∧
  (∀ (n : Nat) (l0 l1 : Option Value) (x : Int32) (r : List Value) (σ : zk_S) (sz k c : Nat), zk_run E (zk_VT E) M_X5_exitAt (C_X5_exitAt E) P PX K (n + 1) 1 [l0, l1] (.int x :: r) (σ, sz, k, c) = ((x < 0 → zk_run E (zk_VT E) M_X5_exitAt (C_X5_exitAt E) P PX K n 10 [l0, l1] r (σ, sz, k, c)) ∧ (¬ (x < 0) → zk_run E (zk_VT E) M_X5_exitAt (C_X5_exitAt E) P PX K n 4 [l0, l1] r (σ, sz, k, c)))) ∧
  (∀ (n : Nat) (l0 : Option Value) (y1 : Int32) (r : List Value) (σ : zk_S) (sz k c : Nat), zk_run E (zk_VT E) M_X5_exitAt (C_X5_exitAt E) P PX K (n + 1) 4 [l0, some (.int y1)] r (σ, sz, k, c) = zk_run E (zk_VT E) M_X5_exitAt (C_X5_exitAt E) P PX K n 5 [l0, some (.int y1)] (.int y1 :: r) (σ, sz, k, c)) ∧
  (∀ (n : Nat) (l0 l1 : Option Value)  (r : List Value) (σ : zk_S) (sz k c : Nat), zk_run E (zk_VT E) M_X5_exitAt (C_X5_exitAt E) P PX K (n + 1) 5 [l0, l1] r (σ, sz, k, c) = zk_run E (zk_VT E) M_X5_exitAt (C_X5_exitAt E) P PX K n 7 [l0, l1] (.int (50) :: r) (σ, sz, k, c)) ∧
  (∀ (n : Nat) (l0 l1 : Option Value) (x y : Int32) (r : List Value) (σ : zk_S) (sz k c : Nat), zk_run E (zk_VT E) M_X5_exitAt (C_X5_exitAt E) P PX K (n + 1) 7 [l0, l1] (.int y :: .int x :: r) (σ, sz, k, c) = ((x < y → zk_run E (zk_VT E) M_X5_exitAt (C_X5_exitAt E) P PX K n 12 [l0, l1] r (σ, sz, k, c)) ∧ (¬ (x < y) → zk_run E (zk_VT E) M_X5_exitAt (C_X5_exitAt E) P PX K n 10 [l0, l1] r (σ, sz, k, c)))) ∧
  (∀ (n : Nat) (l0 l1 : Option Value)  (r : List Value) (σ : zk_S) (sz k c : Nat), zk_run E (zk_VT E) M_X5_exitAt (C_X5_exitAt E) P PX K (n + 1) 10 [l0, l1] r (σ, sz, k, c) = zk_run E (zk_VT E) M_X5_exitAt (C_X5_exitAt E) P PX K n 11 [l0, l1] (.null :: r) (σ, sz, k, c)) ∧
  (∀ (n : Nat) (l0 l1 : Option Value) (x : Value)  (σ : zk_S) (sz k c : Nat), zk_run E (zk_VT E) M_X5_exitAt (C_X5_exitAt E) P PX K (n + 1) 11 [l0, l1] [x] (σ, sz, k, c) = (zk_isr x ∧ P (some (x)) σ sz ∧ k ≤ 0 ∧ c ≤ 0)) ∧
  (∀ (n : Nat) (l0 : Option Value) (y1 : Int32) (r : List Value) (σ : zk_S) (sz k c : Nat), zk_run E (zk_VT E) M_X5_exitAt (C_X5_exitAt E) P PX K (n + 1) 12 [l0, some (.int y1)] r (σ, sz, k, c) = zk_run E (zk_VT E) M_X5_exitAt (C_X5_exitAt E) P PX K n 13 [l0, some (.int y1)] (.int y1 :: r) (σ, sz, k, c)) ∧
  (∀ (n : Nat) (l0 l1 : Option Value)  (r : List Value) (σ : zk_S) (sz k c : Nat), zk_run E (zk_VT E) M_X5_exitAt (C_X5_exitAt E) P PX K (n + 1) 13 [l0, l1] r (σ, sz, k, c) = zk_run E (zk_VT E) M_X5_exitAt (C_X5_exitAt E) P PX K n 15 [l0, l1] (.int (40) :: r) (σ, sz, k, c)) ∧
  (∀ (n : Nat) (l0 l1 : Option Value) (x y : Int32) (r : List Value) (σ : zk_S) (sz k c : Nat), zk_run E (zk_VT E) M_X5_exitAt (C_X5_exitAt E) P PX K (n + 1) 15 [l0, l1] (.int y :: .int x :: r) (σ, sz, k, c) = ((y ≤ x → zk_run E (zk_VT E) M_X5_exitAt (C_X5_exitAt E) P PX K n 25 [l0, l1] r (σ, sz, k, c)) ∧ (¬ (y ≤ x) → zk_run E (zk_VT E) M_X5_exitAt (C_X5_exitAt E) P PX K n 18 [l0, l1] r (σ, sz, k, c)))) ∧
  (∀ (n : Nat) (l1 : Option Value) (y0 : Value) (r : List Value) (σ : zk_S) (sz k c : Nat), zk_run E (zk_VT E) M_X5_exitAt (C_X5_exitAt E) P PX K (n + 1) 18 [some y0, l1] r (σ, sz, k, c) = (zk_isr y0 ∧ zk_run E (zk_VT E) M_X5_exitAt (C_X5_exitAt E) P PX K n 19 [some y0, l1] (y0 :: r) (σ, sz, k, c))) ∧
  (∀ (n : Nat) (l0 l1 : Option Value) (a : Nat) (r : List Value) (σ : zk_S) (sz k c : Nat), zk_run E (zk_VT E) M_X5_exitAt (C_X5_exitAt E) P PX K (n + 1) 19 [l0, l1] (.ref a :: r) (σ, sz, k, c) = zk_fld (zk_view E σ a) [4] 1 (fun v => zk_run E (zk_VT E) M_X5_exitAt (C_X5_exitAt E) P PX K n 22 [l0, l1] (v :: r) (σ, sz, k, c))) ∧
  (∀ (n : Nat) (l0 : Option Value) (y1 : Int32) (r : List Value) (σ : zk_S) (sz k c : Nat), zk_run E (zk_VT E) M_X5_exitAt (C_X5_exitAt E) P PX K (n + 1) 22 [l0, some (.int y1)] r (σ, sz, k, c) = zk_run E (zk_VT E) M_X5_exitAt (C_X5_exitAt E) P PX K n 23 [l0, some (.int y1)] (.int y1 :: r) (σ, sz, k, c)) ∧
  (∀ (n : Nat) (l0 l1 : Option Value) (a : Nat) (i : Int32) (r : List Value) (σ : zk_S) (sz k c : Nat), zk_run E (zk_VT E) M_X5_exitAt (C_X5_exitAt E) P PX K (n + 1) 23 [l0, l1] (.int i :: .ref a :: r) (σ, sz, k, c) = zk_qld (zk_view E σ a) i [zk_ar E 3, zk_ar E 4, zk_ar E 5, zk_ar E 6, zk_ar E 7] (fun x => (x = none → zk_run E (zk_VT E) M_X5_exitAt (C_X5_exitAt E) P PX K n 24 [l0, l1] (.null :: r) (σ, sz, k, c)) ∧ ∀ b, x = some b → zk_run E (zk_VT E) M_X5_exitAt (C_X5_exitAt E) P PX K n 24 [l0, l1] (.ref b :: r) (σ, sz, k, c))) ∧
  (∀ (n : Nat) (l0 l1 : Option Value) (x : Value)  (σ : zk_S) (sz k c : Nat), zk_run E (zk_VT E) M_X5_exitAt (C_X5_exitAt E) P PX K (n + 1) 24 [l0, l1] [x] (σ, sz, k, c) = (zk_isr x ∧ P (some (x)) σ sz ∧ k ≤ 0 ∧ c ≤ 0)) ∧
  (∀ (n : Nat) (l1 : Option Value) (y0 : Value) (r : List Value) (σ : zk_S) (sz k c : Nat), zk_run E (zk_VT E) M_X5_exitAt (C_X5_exitAt E) P PX K (n + 1) 25 [some y0, l1] r (σ, sz, k, c) = (zk_isr y0 ∧ zk_run E (zk_VT E) M_X5_exitAt (C_X5_exitAt E) P PX K n 26 [some y0, l1] (y0 :: r) (σ, sz, k, c))) ∧
  (∀ (n : Nat) (l0 l1 : Option Value) (a : Nat) (r : List Value) (σ : zk_S) (sz k c : Nat), zk_run E (zk_VT E) M_X5_exitAt (C_X5_exitAt E) P PX K (n + 1) 26 [l0, l1] (.ref a :: r) (σ, sz, k, c) = zk_fld (zk_view E σ a) [4] 3 (fun v => zk_run E (zk_VT E) M_X5_exitAt (C_X5_exitAt E) P PX K n 29 [l0, l1] (v :: r) (σ, sz, k, c))) ∧
  (∀ (n : Nat) (l0 : Option Value) (y1 : Int32) (r : List Value) (σ : zk_S) (sz k c : Nat), zk_run E (zk_VT E) M_X5_exitAt (C_X5_exitAt E) P PX K (n + 1) 29 [l0, some (.int y1)] r (σ, sz, k, c) = zk_run E (zk_VT E) M_X5_exitAt (C_X5_exitAt E) P PX K n 30 [l0, some (.int y1)] (.int y1 :: r) (σ, sz, k, c)) ∧
  (∀ (n : Nat) (l0 l1 : Option Value)  (r : List Value) (σ : zk_S) (sz k c : Nat), zk_run E (zk_VT E) M_X5_exitAt (C_X5_exitAt E) P PX K (n + 1) 30 [l0, l1] r (σ, sz, k, c) = zk_run E (zk_VT E) M_X5_exitAt (C_X5_exitAt E) P PX K n 32 [l0, l1] (.int (40) :: r) (σ, sz, k, c)) ∧
  (∀ (n : Nat) (l0 l1 : Option Value) (x y : Int32) (r : List Value) (σ : zk_S) (sz k c : Nat), zk_run E (zk_VT E) M_X5_exitAt (C_X5_exitAt E) P PX K (n + 1) 32 [l0, l1] (.int y :: .int x :: r) (σ, sz, k, c) = zk_run E (zk_VT E) M_X5_exitAt (C_X5_exitAt E) P PX K n 33 [l0, l1] (.int (x - y) :: r) (σ, sz, k, c)) ∧
  (∀ (n : Nat) (l0 l1 : Option Value) (a : Nat) (i : Int32) (r : List Value) (σ : zk_S) (sz k c : Nat), zk_run E (zk_VT E) M_X5_exitAt (C_X5_exitAt E) P PX K (n + 1) 33 [l0, l1] (.int i :: .ref a :: r) (σ, sz, k, c) = zk_qld (zk_view E σ a) i [zk_ar E 3, zk_ar E 4, zk_ar E 5, zk_ar E 6, zk_ar E 7] (fun x => (x = none → zk_run E (zk_VT E) M_X5_exitAt (C_X5_exitAt E) P PX K n 34 [l0, l1] (.null :: r) (σ, sz, k, c)) ∧ ∀ b, x = some b → zk_run E (zk_VT E) M_X5_exitAt (C_X5_exitAt E) P PX K n 34 [l0, l1] (.ref b :: r) (σ, sz, k, c))) ∧
  (∀ (n : Nat) (l0 l1 : Option Value) (x : Value)  (σ : zk_S) (sz k c : Nat), zk_run E (zk_VT E) M_X5_exitAt (C_X5_exitAt E) P PX K (n + 1) 34 [l0, l1] [x] (σ, sz, k, c) = (zk_isr x ∧ P (some (x)) σ sz ∧ k ≤ 0 ∧ c ≤ 0)) ∧
  (∀ (n : Nat) (l0 l1 : Option Value) (r : List Value) (w : zk_W zk_S), zk_go E (zk_VT E) M_X5_exitAt (C_X5_exitAt E) P PX K n 0 [l0, l1] r w = zk_run E (zk_VT E) M_X5_exitAt (C_X5_exitAt E) P PX K (n + 1) 0 [l0, l1] r w) := ⟨by intros; rfl, by intros; rfl, by intros; rfl, by intros; rfl, by intros; rfl, by intros; rfl, by intros; rfl, by intros; rfl, by intros; rfl, by intros; rfl, by intros; rfl, by intros; rfl, by intros; rfl, by intros; rfl, by intros; rfl, by intros; rfl, by intros; rfl, by intros; rfl, by intros; rfl, by intros; rfl, by intros; rfl, by intros; rfl, by intros; rfl⟩
theorem vc_X5_exitAt (E : zk_E) : zk_VC E (zk_VT E) M_X5_exitAt (C_X5_exitAt E) 2 (sp_X5_exitAt E) := by
  intro av σ sz P PX h
  obtain ⟨J, N, Q, O, U⟩ := σ
  unfold sp_X5_exitAt at h
  split at h
  case h_2 => exact h.elim
  rename_i a0 i
  obtain ⟨rfl, h⟩ := h
  refine ⟨Nat.le_of_ble_eq_true rfl, fun G hG => ?_⟩
  change G 0 [some (.ref (zk_ad E 1)), some (.int i)] [] ((J, N, Q, O, U), sz, 0, 0)
  try dsimp only at h
  obtain ⟨h1, h2⟩ := h
  by_cases q1 : 0 ≤ i
  · have d1 : (i < 0) = False := eq_false (Int32.not_lt.mpr q1)
    by_cases q2 : i ≤ 49
    · have hin : m_isIn i 0 49 = true := decide_eq_true ⟨q1, q2⟩
      have h3 := h2 hin
      rw [show (49 : Int32) = nI 50 - 1 by decide] at hin
      obtain ⟨k, hk, rfl⟩ := m_isIn_lt (by decide) hin
      have d2 : nI k < 50 := (nI_lt (b := 50) hk (by decide) : nI k < nI 50)
      rw [n_cl (by omega)] at h3
      unfold xat at h3
      by_cases k40 : k < 40
      · rw [if_pos k40] at h3
        have c40 : ¬ (40 : Int32) ≤ nI k := (nI_ge (b := 40) k40 (by decide) : ¬ nI 40 ≤ nI k)
        have i40 : vp_in (nI k) 40 := n_in k40 (by decide)
        have cl : (nI k).toNatClampNeg = k := n_cl (by omega)
        cases hq : Q 3 k with
        | none =>
          rw [hq, va_rf_n] at h3
          (refine hG 900 _ _ _ _ ?_; simp only [r_X5_exitAt, zk_kl_none, zk_kl_int, zk_kl_ref, zk_kl_null, zk_kl_long, zk_kl_rf, zk_isr_ref, zk_isr_null, zk_isr_rf9, zk_c1_int, zk_c1_ref, zk_c1_null, zk_c1_rf, zk_psh_some, zk_psh_none, zk_nok_int, zk_nok_bool0, zk_nok_bool1, zk_nok_b, zk_fok_0, zk_fok_1, zk_fok_2, zk_fok_n, zk_fok_rf, zb_f, zb_p, zb_i, zb_a, zb_s, zk_nth_0, zk_nth_s, zk_fld_o, zk_put_o, zk_rv_eq, zk_ri_eq, zk_is_o, List.mem_cons, List.not_mem_nil, or_false, false_or, or_true, true_or, and_true, true_and, not_false_iff, not_true_eq_false, true_implies, false_implies, imp_self, implies_true, forall_const, zk_lit, zk_uj_ap, zk_un_ap, zk_un_un, zk_uj_uj, Nat.reduceEqDiff, eq_self, zk_bq, Bool.true_or, Bool.false_or, Nat.le_refl, Nat.zero_add, Nat.add_zero, Nat.reduceAdd, Nat.reduceLeDiff, Nat.le_zero_eq, and_self, and_false, false_and, ite_true, ite_false, Nat.zero_le, List.length_cons, List.length_nil, Option.some.injEq, forall_eq', reduceCtorEq, d1, d2, c40, i40, cl, hq])
          exact h3
        | some b =>
          rw [hq, va_rf_s] at h3
          (refine hG 900 _ _ _ _ ?_; simp only [r_X5_exitAt, zk_kl_none, zk_kl_int, zk_kl_ref, zk_kl_null, zk_kl_long, zk_kl_rf, zk_isr_ref, zk_isr_null, zk_isr_rf9, zk_c1_int, zk_c1_ref, zk_c1_null, zk_c1_rf, zk_psh_some, zk_psh_none, zk_nok_int, zk_nok_bool0, zk_nok_bool1, zk_nok_b, zk_fok_0, zk_fok_1, zk_fok_2, zk_fok_n, zk_fok_rf, zb_f, zb_p, zb_i, zb_a, zb_s, zk_nth_0, zk_nth_s, zk_fld_o, zk_put_o, zk_rv_eq, zk_ri_eq, zk_is_o, List.mem_cons, List.not_mem_nil, or_false, false_or, or_true, true_or, and_true, true_and, not_false_iff, not_true_eq_false, true_implies, false_implies, imp_self, implies_true, forall_const, zk_lit, zk_uj_ap, zk_un_ap, zk_un_un, zk_uj_uj, Nat.reduceEqDiff, eq_self, zk_bq, Bool.true_or, Bool.false_or, Nat.le_refl, Nat.zero_add, Nat.add_zero, Nat.reduceAdd, Nat.reduceLeDiff, Nat.le_zero_eq, and_self, and_false, false_and, ite_true, ite_false, Nat.zero_le, List.length_cons, List.length_nil, Option.some.injEq, forall_eq', reduceCtorEq, d1, d2, c40, i40, cl, hq])
          exact h3
      · rw [if_neg k40] at h3
        have c40 : (40 : Int32) ≤ nI k := (nI_le (a := 40) (by omega) (by omega) : nI 40 ≤ nI k)
        have e1 : nI k - 40 = nI (k - 40) := n_sub (b := 40) (by omega)
        have i40 : vp_in (nI (k - 40)) 10 := n_in (by omega) (by decide)
        have cl : (nI (k - 40)).toNatClampNeg = k - 40 := n_cl (by omega)
        cases hq : Q 5 (k - 40) with
        | none =>
          rw [hq, va_rf_n] at h3
          (refine hG 900 _ _ _ _ ?_; simp only [r_X5_exitAt, zk_kl_none, zk_kl_int, zk_kl_ref, zk_kl_null, zk_kl_long, zk_kl_rf, zk_isr_ref, zk_isr_null, zk_isr_rf9, zk_c1_int, zk_c1_ref, zk_c1_null, zk_c1_rf, zk_psh_some, zk_psh_none, zk_nok_int, zk_nok_bool0, zk_nok_bool1, zk_nok_b, zk_fok_0, zk_fok_1, zk_fok_2, zk_fok_n, zk_fok_rf, zb_f, zb_p, zb_i, zb_a, zb_s, zk_nth_0, zk_nth_s, zk_fld_o, zk_put_o, zk_rv_eq, zk_ri_eq, zk_is_o, List.mem_cons, List.not_mem_nil, or_false, false_or, or_true, true_or, and_true, true_and, not_false_iff, not_true_eq_false, true_implies, false_implies, imp_self, implies_true, forall_const, zk_lit, zk_uj_ap, zk_un_ap, zk_un_un, zk_uj_uj, Nat.reduceEqDiff, eq_self, zk_bq, Bool.true_or, Bool.false_or, Nat.le_refl, Nat.zero_add, Nat.add_zero, Nat.reduceAdd, Nat.reduceLeDiff, Nat.le_zero_eq, and_self, and_false, false_and, ite_true, ite_false, Nat.zero_le, List.length_cons, List.length_nil, Option.some.injEq, forall_eq', reduceCtorEq, d1, d2, c40, e1, i40, cl, hq])
          exact h3
        | some b =>
          rw [hq, va_rf_s] at h3
          (refine hG 900 _ _ _ _ ?_; simp only [r_X5_exitAt, zk_kl_none, zk_kl_int, zk_kl_ref, zk_kl_null, zk_kl_long, zk_kl_rf, zk_isr_ref, zk_isr_null, zk_isr_rf9, zk_c1_int, zk_c1_ref, zk_c1_null, zk_c1_rf, zk_psh_some, zk_psh_none, zk_nok_int, zk_nok_bool0, zk_nok_bool1, zk_nok_b, zk_fok_0, zk_fok_1, zk_fok_2, zk_fok_n, zk_fok_rf, zb_f, zb_p, zb_i, zb_a, zb_s, zk_nth_0, zk_nth_s, zk_fld_o, zk_put_o, zk_rv_eq, zk_ri_eq, zk_is_o, List.mem_cons, List.not_mem_nil, or_false, false_or, or_true, true_or, and_true, true_and, not_false_iff, not_true_eq_false, true_implies, false_implies, imp_self, implies_true, forall_const, zk_lit, zk_uj_ap, zk_un_ap, zk_un_un, zk_uj_uj, Nat.reduceEqDiff, eq_self, zk_bq, Bool.true_or, Bool.false_or, Nat.le_refl, Nat.zero_add, Nat.add_zero, Nat.reduceAdd, Nat.reduceLeDiff, Nat.le_zero_eq, and_self, and_false, false_and, ite_true, ite_false, Nat.zero_le, List.length_cons, List.length_nil, Option.some.injEq, forall_eq', reduceCtorEq, d1, d2, c40, e1, i40, cl, hq])
          exact h3
    · have hin : m_isIn i 0 49 = false := decide_eq_false (fun w => q2 w.2)
      have h3 := h1 hin
      have d2 : ¬ i < 50 := by
        rw [i32_lt]
        rw [i32_le] at q2
        have e1 : (49 : Int32).toInt = 49 := rfl
        have e2 : (50 : Int32).toInt = 50 := rfl
        omega
      (refine hG 900 _ _ _ _ ?_; simp only [r_X5_exitAt, zk_kl_none, zk_kl_int, zk_kl_ref, zk_kl_null, zk_kl_long, zk_kl_rf, zk_isr_ref, zk_isr_null, zk_isr_rf9, zk_c1_int, zk_c1_ref, zk_c1_null, zk_c1_rf, zk_psh_some, zk_psh_none, zk_nok_int, zk_nok_bool0, zk_nok_bool1, zk_nok_b, zk_fok_0, zk_fok_1, zk_fok_2, zk_fok_n, zk_fok_rf, zb_f, zb_p, zb_i, zb_a, zb_s, zk_nth_0, zk_nth_s, zk_fld_o, zk_put_o, zk_rv_eq, zk_ri_eq, zk_is_o, List.mem_cons, List.not_mem_nil, or_false, false_or, or_true, true_or, and_true, true_and, not_false_iff, not_true_eq_false, true_implies, false_implies, imp_self, implies_true, forall_const, zk_lit, zk_uj_ap, zk_un_ap, zk_un_un, zk_uj_uj, Nat.reduceEqDiff, eq_self, zk_bq, Bool.true_or, Bool.false_or, Nat.le_refl, Nat.zero_add, Nat.add_zero, Nat.reduceAdd, Nat.reduceLeDiff, Nat.le_zero_eq, and_self, and_false, false_and, ite_true, ite_false, Nat.zero_le, List.length_cons, List.length_nil, Option.some.injEq, forall_eq', reduceCtorEq, d1, d2])
      exact h3
  · have hin : m_isIn i 0 49 = false := decide_eq_false (fun w => q1 w.1)
    have h3 := h1 hin
    have d1 : (i < 0) = True := eq_true (Int32.not_le.mp q1)
    (refine hG 900 _ _ _ _ ?_; simp only [r_X5_exitAt, zk_kl_none, zk_kl_int, zk_kl_ref, zk_kl_null, zk_kl_long, zk_kl_rf, zk_isr_ref, zk_isr_null, zk_isr_rf9, zk_c1_int, zk_c1_ref, zk_c1_null, zk_c1_rf, zk_psh_some, zk_psh_none, zk_nok_int, zk_nok_bool0, zk_nok_bool1, zk_nok_b, zk_fok_0, zk_fok_1, zk_fok_2, zk_fok_n, zk_fok_rf, zb_f, zb_p, zb_i, zb_a, zb_s, zk_nth_0, zk_nth_s, zk_fld_o, zk_put_o, zk_rv_eq, zk_ri_eq, zk_is_o, List.mem_cons, List.not_mem_nil, or_false, false_or, or_true, true_or, and_true, true_and, not_false_iff, not_true_eq_false, true_implies, false_implies, imp_self, implies_true, forall_const, zk_lit, zk_uj_ap, zk_un_ap, zk_un_un, zk_uj_uj, Nat.reduceEqDiff, eq_self, zk_bq, Bool.true_or, Bool.false_or, Nat.le_refl, Nat.zero_add, Nat.add_zero, Nat.reduceAdd, Nat.reduceLeDiff, Nat.le_zero_eq, and_self, and_false, false_and, ite_true, ite_false, Nat.zero_le, List.length_cons, List.length_nil, Option.some.injEq, forall_eq', reduceCtorEq, d1])
    exact h3
theorem ct_X5_exitAt {l : Launch} (hl : l.stackTraces = false) (E : zk_E) : zk_C l E (zk_VT E) yX5_exitAt cX5_exitAt 2 (some ((.object "ClerestoryPlan$Exit"))) rm_X5_exitAt (sp_X5_exitAt E) := by
  refine zk_meth (M := M_X5_exitAt) (C := C_X5_exitAt E) hl (by decide +kernel) rfl (fun _ _ => rfl) (zk_VT_ok E) MO_X5_exitAt TO_X5_exitAt THo_X5_exitAt ?_ (vc_X5_exitAt E)
  exact fun p e s m args below meth c X pc n mc ms sp2 h => absurd (zk_lka_mem h) List.not_mem_nil
def sp_X10_isWithin (E : zk_E) : zk_Sp zk_S := fun av σ sz P PX => match av with
  | [.int v, .int lo, .int hi] => P (some (.int (zk_b (m_isIn v lo hi)))) σ sz
  | _ => False
theorem spe_X10_isWithin (E : zk_E) (v : Int32) (lo : Int32) (hi : Int32) (σ : zk_S) (sz : Nat) (P : zk_P zk_S) (PX : zk_X zk_S) : sp_X10_isWithin E [.int v, .int lo, .int hi] σ sz P PX = (P (some (.int (zk_b (m_isIn v lo hi)))) σ sz) := propext Iff.rfl
def C_X10_isWithin (E : zk_E) : zk_Cl zk_S := zk_lka []
theorem r_X10_isWithin (E : zk_E) (P : zk_P zk_S) (PX : zk_X zk_S) (K : Nat → zk_L → List Value → zk_W zk_S → Prop) : (∀ (n : Nat) (l1 l2 : Option Value) (y0 : Int32) (r : List Value) (σ : zk_S) (sz k c : Nat), zk_run E (zk_VT E) M_X10_isWithin (C_X10_isWithin E) P PX K (n + 1) 0 [some (.int y0), l1, l2] r (σ, sz, k, c) = zk_run E (zk_VT E) M_X10_isWithin (C_X10_isWithin E) P PX K n 1 [some (.int y0), l1, l2] (.int y0 :: r) (σ, sz, k, c)) ∧
  (∀ (n : Nat) (l0 l2 : Option Value) (y1 : Int32) (r : List Value) (σ : zk_S) (sz k c : Nat), zk_run E (zk_VT E) M_X10_isWithin (C_X10_isWithin E) P PX K (n + 1) 1 [l0, some (.int y1), l2] r (σ, sz, k, c) = zk_run E (zk_VT E) M_X10_isWithin (C_X10_isWithin E) P PX K n 2 [l0, some (.int y1), l2] (.int y1 :: r) (σ, sz, k, c)) ∧
  (∀ (n : Nat) (l0 l1 l2 : Option Value) (x y : Int32) (r : List Value) (σ : zk_S) (sz k c : Nat), zk_run E (zk_VT E) M_X10_isWithin (C_X10_isWithin E) P PX K (n + 1) 2 [l0, l1, l2] (.int y :: .int x :: r) (σ, sz, k, c) = ((x < y → zk_run E (zk_VT E) M_X10_isWithin (C_X10_isWithin E) P PX K n 14 [l0, l1, l2] r (σ, sz, k, c)) ∧ (¬ (x < y) → zk_run E (zk_VT E) M_X10_isWithin (C_X10_isWithin E) P PX K n 5 [l0, l1, l2] r (σ, sz, k, c)))) ∧
  (∀ (n : Nat) (l1 l2 : Option Value) (y0 : Int32) (r : List Value) (σ : zk_S) (sz k c : Nat), zk_run E (zk_VT E) M_X10_isWithin (C_X10_isWithin E) P PX K (n + 1) 5 [some (.int y0), l1, l2] r (σ, sz, k, c) = zk_run E (zk_VT E) M_X10_isWithin (C_X10_isWithin E) P PX K n 6 [some (.int y0), l1, l2] (.int y0 :: r) (σ, sz, k, c)) ∧
  (∀ (n : Nat) (l0 l1 : Option Value) (y2 : Int32) (r : List Value) (σ : zk_S) (sz k c : Nat), zk_run E (zk_VT E) M_X10_isWithin (C_X10_isWithin E) P PX K (n + 1) 6 [l0, l1, some (.int y2)] r (σ, sz, k, c) = zk_run E (zk_VT E) M_X10_isWithin (C_X10_isWithin E) P PX K n 7 [l0, l1, some (.int y2)] (.int y2 :: r) (σ, sz, k, c)) ∧
  (∀ (n : Nat) (l0 l1 l2 : Option Value) (x y : Int32) (r : List Value) (σ : zk_S) (sz k c : Nat), zk_run E (zk_VT E) M_X10_isWithin (C_X10_isWithin E) P PX K (n + 1) 7 [l0, l1, l2] (.int y :: .int x :: r) (σ, sz, k, c) = ((y < x → zk_run E (zk_VT E) M_X10_isWithin (C_X10_isWithin E) P PX K n 14 [l0, l1, l2] r (σ, sz, k, c)) ∧ (¬ (y < x) → zk_run E (zk_VT E) M_X10_isWithin (C_X10_isWithin E) P PX K n 10 [l0, l1, l2] r (σ, sz, k, c)))) ∧
  (∀ (n : Nat) (l0 l1 l2 : Option Value)  (r : List Value) (σ : zk_S) (sz k c : Nat), zk_run E (zk_VT E) M_X10_isWithin (C_X10_isWithin E) P PX K (n + 1) 10 [l0, l1, l2] r (σ, sz, k, c) = zk_run E (zk_VT E) M_X10_isWithin (C_X10_isWithin E) P PX K n 11 [l0, l1, l2] (.int (1) :: r) (σ, sz, k, c)) ∧
  (∀ (n : Nat) (l0 l1 l2 : Option Value)  (r : List Value) (σ : zk_S) (sz k c : Nat), zk_run E (zk_VT E) M_X10_isWithin (C_X10_isWithin E) P PX K (n + 1) 11 [l0, l1, l2] r (σ, sz, k, c) = zk_run E (zk_VT E) M_X10_isWithin (C_X10_isWithin E) P PX K n 15 [l0, l1, l2] r (σ, sz, k, c)) ∧
  (∀ (n : Nat) (l0 l1 l2 : Option Value)  (r : List Value) (σ : zk_S) (sz k c : Nat), zk_run E (zk_VT E) M_X10_isWithin (C_X10_isWithin E) P PX K (n + 1) 14 [l0, l1, l2] r (σ, sz, k, c) = zk_run E (zk_VT E) M_X10_isWithin (C_X10_isWithin E) P PX K n 15 [l0, l1, l2] (.int (0) :: r) (σ, sz, k, c)) ∧
  (∀ (n : Nat) (l0 l1 l2 : Option Value) (x : Int32)  (σ : zk_S) (sz k c : Nat), zk_run E (zk_VT E) M_X10_isWithin (C_X10_isWithin E) P PX K (n + 1) 15 [l0, l1, l2] [.int x] (σ, sz, k, c) = (zk_nok (some (.boolean)) x ∧ P (some (.int x)) σ sz ∧ k ≤ 0 ∧ c ≤ 0)) ∧
  (∀ (n : Nat) (l0 l1 l2 : Option Value) (r : List Value) (w : zk_W zk_S), zk_go E (zk_VT E) M_X10_isWithin (C_X10_isWithin E) P PX K n 0 [l0, l1, l2] r w = zk_run E (zk_VT E) M_X10_isWithin (C_X10_isWithin E) P PX K (n + 1) 0 [l0, l1, l2] r w) := ⟨by intros; rfl, by intros; rfl, by intros; rfl, by intros; rfl, by intros; rfl, by intros; rfl, by intros; rfl, by intros; rfl, by intros; rfl, by intros; rfl, by intros; rfl⟩
theorem vc_X10_isWithin (E : zk_E) : zk_VC E (zk_VT E) M_X10_isWithin (C_X10_isWithin E) 3 (sp_X10_isWithin E) := by
  intro av σ sz P PX h
  obtain ⟨J, N, Q, O, U⟩ := σ
  unfold sp_X10_isWithin at h
  split at h
  case h_2 => exact h.elim
  rename_i v lo hi
  refine ⟨Nat.le_of_ble_eq_true rfl, fun G hG => ?_⟩
  change G 0 [some (.int v), some (.int lo), some (.int hi)] [] ((J, N, Q, O, U), sz, 0, 0)
  try dsimp only at h
  unfold m_isIn at h
  by_cases q : lo ≤ v
  · have d1 : (v < lo) = False := eq_false (Int32.not_lt.mpr q)
    by_cases q2 : v ≤ hi
    · have d2 : (hi < v) = False := eq_false (Int32.not_lt.mpr q2)
      rw [decide_eq_true ⟨q, q2⟩] at h
      (refine hG 900 _ _ _ _ ?_; simp only [r_X10_isWithin, zk_kl_none, zk_kl_int, zk_kl_ref, zk_kl_null, zk_kl_long, zk_kl_rf, zk_isr_ref, zk_isr_null, zk_isr_rf9, zk_c1_int, zk_c1_ref, zk_c1_null, zk_c1_rf, zk_psh_some, zk_psh_none, zk_nok_int, zk_nok_bool0, zk_nok_bool1, zk_nok_b, zk_fok_0, zk_fok_1, zk_fok_2, zk_fok_n, zk_fok_rf, zb_f, zb_p, zb_i, zb_a, zb_s, zk_nth_0, zk_nth_s, zk_fld_o, zk_put_o, zk_rv_eq, zk_ri_eq, zk_is_o, List.mem_cons, List.not_mem_nil, or_false, false_or, or_true, true_or, and_true, true_and, not_false_iff, not_true_eq_false, true_implies, false_implies, imp_self, implies_true, forall_const, zk_lit, zk_uj_ap, zk_un_ap, zk_un_un, zk_uj_uj, Nat.reduceEqDiff, eq_self, zk_bq, Bool.true_or, Bool.false_or, Nat.le_refl, Nat.zero_add, Nat.add_zero, Nat.reduceAdd, Nat.reduceLeDiff, Nat.le_zero_eq, and_self, and_false, false_and, ite_true, ite_false, Nat.zero_le, List.length_cons, List.length_nil, Option.some.injEq, forall_eq', reduceCtorEq, d1, d2])
      exact h
    · have d2 : (hi < v) = True := eq_true (Int32.not_le.mp q2)
      rw [decide_eq_false (fun z => q2 z.2)] at h
      (refine hG 900 _ _ _ _ ?_; simp only [r_X10_isWithin, zk_kl_none, zk_kl_int, zk_kl_ref, zk_kl_null, zk_kl_long, zk_kl_rf, zk_isr_ref, zk_isr_null, zk_isr_rf9, zk_c1_int, zk_c1_ref, zk_c1_null, zk_c1_rf, zk_psh_some, zk_psh_none, zk_nok_int, zk_nok_bool0, zk_nok_bool1, zk_nok_b, zk_fok_0, zk_fok_1, zk_fok_2, zk_fok_n, zk_fok_rf, zb_f, zb_p, zb_i, zb_a, zb_s, zk_nth_0, zk_nth_s, zk_fld_o, zk_put_o, zk_rv_eq, zk_ri_eq, zk_is_o, List.mem_cons, List.not_mem_nil, or_false, false_or, or_true, true_or, and_true, true_and, not_false_iff, not_true_eq_false, true_implies, false_implies, imp_self, implies_true, forall_const, zk_lit, zk_uj_ap, zk_un_ap, zk_un_un, zk_uj_uj, Nat.reduceEqDiff, eq_self, zk_bq, Bool.true_or, Bool.false_or, Nat.le_refl, Nat.zero_add, Nat.add_zero, Nat.reduceAdd, Nat.reduceLeDiff, Nat.le_zero_eq, and_self, and_false, false_and, ite_true, ite_false, Nat.zero_le, List.length_cons, List.length_nil, Option.some.injEq, forall_eq', reduceCtorEq, d1, d2])
      exact h
  · have d1 : (v < lo) = True := eq_true (Int32.not_le.mp q)
    rw [decide_eq_false (fun z => q z.1)] at h
    (refine hG 900 _ _ _ _ ?_; simp only [r_X10_isWithin, zk_kl_none, zk_kl_int, zk_kl_ref, zk_kl_null, zk_kl_long, zk_kl_rf, zk_isr_ref, zk_isr_null, zk_isr_rf9, zk_c1_int, zk_c1_ref, zk_c1_null, zk_c1_rf, zk_psh_some, zk_psh_none, zk_nok_int, zk_nok_bool0, zk_nok_bool1, zk_nok_b, zk_fok_0, zk_fok_1, zk_fok_2, zk_fok_n, zk_fok_rf, zb_f, zb_p, zb_i, zb_a, zb_s, zk_nth_0, zk_nth_s, zk_fld_o, zk_put_o, zk_rv_eq, zk_ri_eq, zk_is_o, List.mem_cons, List.not_mem_nil, or_false, false_or, or_true, true_or, and_true, true_and, not_false_iff, not_true_eq_false, true_implies, false_implies, imp_self, implies_true, forall_const, zk_lit, zk_uj_ap, zk_un_ap, zk_un_un, zk_uj_uj, Nat.reduceEqDiff, eq_self, zk_bq, Bool.true_or, Bool.false_or, Nat.le_refl, Nat.zero_add, Nat.add_zero, Nat.reduceAdd, Nat.reduceLeDiff, Nat.le_zero_eq, and_self, and_false, false_and, ite_true, ite_false, Nat.zero_le, List.length_cons, List.length_nil, Option.some.injEq, forall_eq', reduceCtorEq, d1])
    exact h
theorem ct_X10_isWithin {l : Launch} (hl : l.stackTraces = false) (E : zk_E) : zk_C l E (zk_VT E) yX10_isWithin cX10_isWithin 3 (some (.boolean)) rm_X10_isWithin (sp_X10_isWithin E) := by
  refine zk_meth (M := M_X10_isWithin) (C := C_X10_isWithin E) hl (by decide +kernel) rfl (fun _ _ => rfl) (zk_VT_ok E) MO_X10_isWithin TO_X10_isWithin THo_X10_isWithin ?_ (vc_X10_isWithin E)
  exact fun p e s m args below meth c X pc n mc ms sp2 h => absurd (zk_lka_mem h) List.not_mem_nil
def sp_X10_roomThere (E : zk_E) : zk_Sp zk_S := fun av σ sz P PX => match av with
  | [.ref a, .int r] => a = zk_ad E 0 ∧ (∀ b, m_isIn r 0 19 = true → σ.2.2.1 2 r.toNatClampNeg = some b → P (some (.ref b)) σ sz) ∧ ((m_isIn r 0 19 = false ∨ σ.2.2.1 2 r.toNatClampNeg = none) → TX σ sz "java/lang/IndexOutOfBoundsException" PX)
  | _ => False
theorem spe_X10_roomThere (E : zk_E) (a : Nat) (r : Int32) (σ : zk_S) (sz : Nat) (P : zk_P zk_S) (PX : zk_X zk_S) : sp_X10_roomThere E [.ref a, .int r] σ sz P PX = (a = zk_ad E 0 ∧ (∀ b, m_isIn r 0 19 = true → σ.2.2.1 2 r.toNatClampNeg = some b → P (some (.ref b)) σ sz) ∧ ((m_isIn r 0 19 = false ∨ σ.2.2.1 2 r.toNatClampNeg = none) → TX σ sz "java/lang/IndexOutOfBoundsException" PX)) := propext Iff.rfl
def C_X10_roomThere (E : zk_E) : zk_Cl zk_S := zk_lka [(4, 3, 0, 0, sp_X10_isWithin E)]
theorem r_X10_roomThere (E : zk_E) (P : zk_P zk_S) (PX : zk_X zk_S) (K : Nat → zk_L → List Value → zk_W zk_S → Prop) : (∀ (n : Nat) (l0 l2 : Option Value) (y1 : Int32) (r : List Value) (σ : zk_S) (sz k c : Nat), zk_run E (zk_VT E) M_X10_roomThere (C_X10_roomThere E) P PX K (n + 1) 0 [l0, some (.int y1), l2] r (σ, sz, k, c) = zk_run E (zk_VT E) M_X10_roomThere (C_X10_roomThere E) P PX K n 1 [l0, some (.int y1), l2] (.int y1 :: r) (σ, sz, k, c)) ∧
  (∀ (n : Nat) (l0 l1 l2 : Option Value)  (r : List Value) (σ : zk_S) (sz k c : Nat), zk_run E (zk_VT E) M_X10_roomThere (C_X10_roomThere E) P PX K (n + 1) 1 [l0, l1, l2] r (σ, sz, k, c) = zk_run E (zk_VT E) M_X10_roomThere (C_X10_roomThere E) P PX K n 2 [l0, l1, l2] (.int (0) :: r) (σ, sz, k, c)) ∧
  (∀ (n : Nat) (l0 l1 l2 : Option Value)  (r : List Value) (σ : zk_S) (sz k c : Nat), zk_run E (zk_VT E) M_X10_roomThere (C_X10_roomThere E) P PX K (n + 1) 2 [l0, l1, l2] r (σ, sz, k, c) = zk_run E (zk_VT E) M_X10_roomThere (C_X10_roomThere E) P PX K n 4 [l0, l1, l2] (.int (19) :: r) (σ, sz, k, c)) ∧
  (∀ (n : Nat) (l0 l1 l2 : Option Value) (v0 : Value) (v1 : Value) (v2 : Value)  (σ : zk_S) (sz k c : Nat), zk_run E (zk_VT E) M_X10_roomThere (C_X10_roomThere E) P PX K (n + 1) 4 [l0, l1, l2] [v0, v1, v2] (σ, sz, k, c) = (k + 0 ≤ 1 ∧ c + 0 ≤ 6 ∧ (sp_X10_isWithin E) [v2, v1, v0] σ sz (fun v s2 z2 => zk_run E (zk_VT E) M_X10_roomThere (C_X10_roomThere E) P PX K n 7 [l0, l1, l2] (zk_psh v []) (s2, z2, k + 0, c + 0)) (fun X s2 z2 => PX X s2 z2))) ∧
  (∀ (n : Nat) (l0 l1 l2 : Option Value) (x : Int32) (r : List Value) (σ : zk_S) (sz k c : Nat), zk_run E (zk_VT E) M_X10_roomThere (C_X10_roomThere E) P PX K (n + 1) 7 [l0, l1, l2] (.int x :: r) (σ, sz, k, c) = ((x = 0 → zk_run E (zk_VT E) M_X10_roomThere (C_X10_roomThere E) P PX K n 22 [l0, l1, l2] r (σ, sz, k, c)) ∧ (¬ (x = 0) → zk_run E (zk_VT E) M_X10_roomThere (C_X10_roomThere E) P PX K n 10 [l0, l1, l2] r (σ, sz, k, c)))) ∧
  (∀ (n : Nat) (l1 l2 : Option Value) (y0 : Value) (r : List Value) (σ : zk_S) (sz k c : Nat), zk_run E (zk_VT E) M_X10_roomThere (C_X10_roomThere E) P PX K (n + 1) 10 [some y0, l1, l2] r (σ, sz, k, c) = (zk_isr y0 ∧ zk_run E (zk_VT E) M_X10_roomThere (C_X10_roomThere E) P PX K n 11 [some y0, l1, l2] (y0 :: r) (σ, sz, k, c))) ∧
  (∀ (n : Nat) (l0 l1 l2 : Option Value) (a : Nat) (r : List Value) (σ : zk_S) (sz k c : Nat), zk_run E (zk_VT E) M_X10_roomThere (C_X10_roomThere E) P PX K (n + 1) 11 [l0, l1, l2] (.ref a :: r) (σ, sz, k, c) = zk_fld (zk_view E σ a) [9] 0 (fun v => zk_run E (zk_VT E) M_X10_roomThere (C_X10_roomThere E) P PX K n 14 [l0, l1, l2] (v :: r) (σ, sz, k, c))) ∧
  (∀ (n : Nat) (l0 l1 l2 : Option Value) (a : Nat) (r : List Value) (σ : zk_S) (sz k c : Nat), zk_run E (zk_VT E) M_X10_roomThere (C_X10_roomThere E) P PX K (n + 1) 14 [l0, l1, l2] (.ref a :: r) (σ, sz, k, c) = zk_fld (zk_view E σ a) [4] 0 (fun v => zk_run E (zk_VT E) M_X10_roomThere (C_X10_roomThere E) P PX K n 17 [l0, l1, l2] (v :: r) (σ, sz, k, c))) ∧
  (∀ (n : Nat) (l0 l2 : Option Value) (y1 : Int32) (r : List Value) (σ : zk_S) (sz k c : Nat), zk_run E (zk_VT E) M_X10_roomThere (C_X10_roomThere E) P PX K (n + 1) 17 [l0, some (.int y1), l2] r (σ, sz, k, c) = zk_run E (zk_VT E) M_X10_roomThere (C_X10_roomThere E) P PX K n 18 [l0, some (.int y1), l2] (.int y1 :: r) (σ, sz, k, c)) ∧
  (∀ (n : Nat) (l0 l1 l2 : Option Value) (a : Nat) (i : Int32) (r : List Value) (σ : zk_S) (sz k c : Nat), zk_run E (zk_VT E) M_X10_roomThere (C_X10_roomThere E) P PX K (n + 1) 18 [l0, l1, l2] (.int i :: .ref a :: r) (σ, sz, k, c) = zk_qld (zk_view E σ a) i [zk_ar E 3, zk_ar E 4, zk_ar E 5, zk_ar E 6, zk_ar E 7] (fun x => (x = none → zk_run E (zk_VT E) M_X10_roomThere (C_X10_roomThere E) P PX K n 19 [l0, l1, l2] (.null :: r) (σ, sz, k, c)) ∧ ∀ b, x = some b → zk_run E (zk_VT E) M_X10_roomThere (C_X10_roomThere E) P PX K n 19 [l0, l1, l2] (.ref b :: r) (σ, sz, k, c))) ∧
  (∀ (n : Nat) (l0 l1 l2 : Option Value)  (r : List Value) (σ : zk_S) (sz k c : Nat), zk_run E (zk_VT E) M_X10_roomThere (C_X10_roomThere E) P PX K (n + 1) 19 [l0, l1, l2] r (σ, sz, k, c) = zk_run E (zk_VT E) M_X10_roomThere (C_X10_roomThere E) P PX K n 23 [l0, l1, l2] r (σ, sz, k, c)) ∧
  (∀ (n : Nat) (l0 l1 l2 : Option Value)  (r : List Value) (σ : zk_S) (sz k c : Nat), zk_run E (zk_VT E) M_X10_roomThere (C_X10_roomThere E) P PX K (n + 1) 22 [l0, l1, l2] r (σ, sz, k, c) = zk_run E (zk_VT E) M_X10_roomThere (C_X10_roomThere E) P PX K n 23 [l0, l1, l2] (.null :: r) (σ, sz, k, c)) ∧
  (∀ (n : Nat) (l0 l1 l2 : Option Value) (x : Value) (r : List Value) (σ : zk_S) (sz k c : Nat), zk_run E (zk_VT E) M_X10_roomThere (C_X10_roomThere E) P PX K (n + 1) 23 [l0, l1, l2] (x :: r) (σ, sz, k, c) = (zk_isr x ∧ zk_run E (zk_VT E) M_X10_roomThere (C_X10_roomThere E) P PX K n 24 [l0, zk_kl l1, some (x)] r (σ, sz, k, c))) ∧
  (∀ (n : Nat) (l0 l1 : Option Value) (y2 : Value) (r : List Value) (σ : zk_S) (sz k c : Nat), zk_run E (zk_VT E) M_X10_roomThere (C_X10_roomThere E) P PX K (n + 1) 24 [l0, l1, some y2] r (σ, sz, k, c) = (zk_isr y2 ∧ zk_run E (zk_VT E) M_X10_roomThere (C_X10_roomThere E) P PX K n 25 [l0, l1, some y2] (y2 :: r) (σ, sz, k, c))) ∧
  (∀ (n : Nat) (l0 l1 l2 : Option Value) (v : Value) (r : List Value) (σ : zk_S) (sz k c : Nat), zk_run E (zk_VT E) M_X10_roomThere (C_X10_roomThere E) P PX K (n + 1) 25 [l0, l1, l2] (v :: r) (σ, sz, k, c) = (zk_isr v ∧ (¬ v = .null → zk_run E (zk_VT E) M_X10_roomThere (C_X10_roomThere E) P PX K n 39 [l0, l1, l2] r (σ, sz, k, c)) ∧ (¬ (¬ v = .null) → zk_run E (zk_VT E) M_X10_roomThere (C_X10_roomThere E) P PX K n 28 [l0, l1, l2] r (σ, sz, k, c)))) ∧
  (∀ (n : Nat) (l0 l1 l2 : Option Value)   (σ : zk_S) (sz k c : Nat), zk_run E (zk_VT E) M_X10_roomThere (C_X10_roomThere E) P PX K (n + 1) 28 [l0, l1, l2] [] (σ, sz, k, c) = (([] : List Value) = [] ∧ (∀ z2, sz ≤ z2 → PX "java/lang/IndexOutOfBoundsException" σ z2) ∧ k + 1 ≤ 1 ∧ c + 6 ≤ 6)) ∧
  (∀ (n : Nat) (l0 l1 : Option Value) (y2 : Value) (r : List Value) (σ : zk_S) (sz k c : Nat), zk_run E (zk_VT E) M_X10_roomThere (C_X10_roomThere E) P PX K (n + 1) 39 [l0, l1, some y2] r (σ, sz, k, c) = (zk_isr y2 ∧ zk_run E (zk_VT E) M_X10_roomThere (C_X10_roomThere E) P PX K n 40 [l0, l1, some y2] (y2 :: r) (σ, sz, k, c))) ∧
  (∀ (n : Nat) (l0 l1 l2 : Option Value) (x : Value)  (σ : zk_S) (sz k c : Nat), zk_run E (zk_VT E) M_X10_roomThere (C_X10_roomThere E) P PX K (n + 1) 40 [l0, l1, l2] [x] (σ, sz, k, c) = (zk_isr x ∧ P (some (x)) σ sz ∧ k ≤ 1 ∧ c ≤ 6)) ∧
  (∀ (n : Nat) (l0 l1 l2 : Option Value) (r : List Value) (w : zk_W zk_S), zk_go E (zk_VT E) M_X10_roomThere (C_X10_roomThere E) P PX K n 0 [l0, l1, l2] r w = zk_run E (zk_VT E) M_X10_roomThere (C_X10_roomThere E) P PX K (n + 1) 0 [l0, l1, l2] r w) := ⟨by intros; rfl, by intros; rfl, by intros; rfl, by intros; rfl, by intros; rfl, by intros; rfl, by intros; rfl, by intros; rfl, by intros; rfl, by intros; rfl, by intros; rfl, by intros; rfl, by intros; rfl, by intros; rfl, by intros; rfl, by intros; rfl, by intros; rfl, by intros; rfl, by intros; rfl⟩
theorem vc_X10_roomThere (E : zk_E) : zk_VC E (zk_VT E) M_X10_roomThere (C_X10_roomThere E) 3 (sp_X10_roomThere E) := by
  intro av σ sz P PX h
  obtain ⟨J, N, Q, O, U⟩ := σ
  unfold sp_X10_roomThere at h
  split at h
  case h_2 => exact h.elim
  rename_i a0 r
  obtain ⟨rfl, h⟩ := h
  refine ⟨Nat.le_of_ble_eq_true rfl, fun G hG => ?_⟩
  change G 0 [some (.ref (zk_ad E 0)), some (.int r), none] [] ((J, N, Q, O, U), sz, 0, 0)
  try dsimp only at h
  obtain ⟨h1, h2⟩ := h
  cases q : m_isIn r 0 19 with
  | false =>
    have h3 := h2 (Or.inl q)
    (refine hG 900 _ _ _ _ ?_; simp only [r_X10_roomThere, zk_kl_none, zk_kl_int, zk_kl_ref, zk_kl_null, zk_kl_long, zk_kl_rf, zk_isr_ref, zk_isr_null, zk_isr_rf9, zk_c1_int, zk_c1_ref, zk_c1_null, zk_c1_rf, zk_psh_some, zk_psh_none, zk_nok_int, zk_nok_bool0, zk_nok_bool1, zk_nok_b, zk_fok_0, zk_fok_1, zk_fok_2, zk_fok_n, zk_fok_rf, zb_f, zb_p, zb_i, zb_a, zb_s, zk_nth_0, zk_nth_s, zk_fld_o, zk_put_o, zk_rv_eq, zk_ri_eq, zk_is_o, List.mem_cons, List.not_mem_nil, or_false, false_or, or_true, true_or, and_true, true_and, not_false_iff, not_true_eq_false, true_implies, false_implies, imp_self, implies_true, forall_const, zk_lit, zk_uj_ap, zk_un_ap, zk_un_un, zk_uj_uj, Nat.reduceEqDiff, eq_self, zk_bq, Bool.true_or, Bool.false_or, Nat.le_refl, Nat.zero_add, Nat.add_zero, Nat.reduceAdd, Nat.reduceLeDiff, Nat.le_zero_eq, and_self, and_false, false_and, ite_true, ite_false, Nat.zero_le, List.length_cons, List.length_nil, Option.some.injEq, forall_eq', reduceCtorEq, spe_X10_isWithin, q, zk_b0])
    exact h3
  | true =>
    have q' := q
    rw [show (19 : Int32) = nI 20 - 1 by decide] at q'
    obtain ⟨k, hk, rfl⟩ := m_isIn_lt (by decide) q'
    have hin : vp_in (nI k) 20 := n_in hk (by decide)
    cases hq : Q 2 (nI k).toNatClampNeg with
    | none =>
      have h3 := h2 (Or.inr hq)
      (refine hG 900 _ _ _ _ ?_; simp only [r_X10_roomThere, zk_kl_none, zk_kl_int, zk_kl_ref, zk_kl_null, zk_kl_long, zk_kl_rf, zk_isr_ref, zk_isr_null, zk_isr_rf9, zk_c1_int, zk_c1_ref, zk_c1_null, zk_c1_rf, zk_psh_some, zk_psh_none, zk_nok_int, zk_nok_bool0, zk_nok_bool1, zk_nok_b, zk_fok_0, zk_fok_1, zk_fok_2, zk_fok_n, zk_fok_rf, zb_f, zb_p, zb_i, zb_a, zb_s, zk_nth_0, zk_nth_s, zk_fld_o, zk_put_o, zk_rv_eq, zk_ri_eq, zk_is_o, List.mem_cons, List.not_mem_nil, or_false, false_or, or_true, true_or, and_true, true_and, not_false_iff, not_true_eq_false, true_implies, false_implies, imp_self, implies_true, forall_const, zk_lit, zk_uj_ap, zk_un_ap, zk_un_un, zk_uj_uj, Nat.reduceEqDiff, eq_self, zk_bq, Bool.true_or, Bool.false_or, Nat.le_refl, Nat.zero_add, Nat.add_zero, Nat.reduceAdd, Nat.reduceLeDiff, Nat.le_zero_eq, and_self, and_false, false_and, ite_true, ite_false, Nat.zero_le, List.length_cons, List.length_nil, Option.some.injEq, forall_eq', reduceCtorEq, spe_X10_isWithin, q, zk_b0, Bool.true_eq_false, hin, hq])
      exact h3
    | some b =>
      have h3 := h1 b q hq
      (refine hG 900 _ _ _ _ ?_; simp only [r_X10_roomThere, zk_kl_none, zk_kl_int, zk_kl_ref, zk_kl_null, zk_kl_long, zk_kl_rf, zk_isr_ref, zk_isr_null, zk_isr_rf9, zk_c1_int, zk_c1_ref, zk_c1_null, zk_c1_rf, zk_psh_some, zk_psh_none, zk_nok_int, zk_nok_bool0, zk_nok_bool1, zk_nok_b, zk_fok_0, zk_fok_1, zk_fok_2, zk_fok_n, zk_fok_rf, zb_f, zb_p, zb_i, zb_a, zb_s, zk_nth_0, zk_nth_s, zk_fld_o, zk_put_o, zk_rv_eq, zk_ri_eq, zk_is_o, List.mem_cons, List.not_mem_nil, or_false, false_or, or_true, true_or, and_true, true_and, not_false_iff, not_true_eq_false, true_implies, false_implies, imp_self, implies_true, forall_const, zk_lit, zk_uj_ap, zk_un_ap, zk_un_un, zk_uj_uj, Nat.reduceEqDiff, eq_self, zk_bq, Bool.true_or, Bool.false_or, Nat.le_refl, Nat.zero_add, Nat.add_zero, Nat.reduceAdd, Nat.reduceLeDiff, Nat.le_zero_eq, and_self, and_false, false_and, ite_true, ite_false, Nat.zero_le, List.length_cons, List.length_nil, Option.some.injEq, forall_eq', reduceCtorEq, spe_X10_isWithin, q, zk_b0, Bool.true_eq_false, hin, hq])
      exact h3
theorem ct_X10_roomThere {l : Launch} (hl : l.stackTraces = false) (E : zk_E) : zk_C l E (zk_VT E) yX10_roomThere cX10_roomThere 3 (some ((.object "ClerestoryPlan$Room"))) rm_X10_roomThere (sp_X10_roomThere E) := by
  refine zk_meth (M := M_X10_roomThere) (C := C_X10_roomThere E) hl (by decide +kernel) rfl (fun _ _ => rfl) (zk_VT_ok E) MO_X10_roomThere TO_X10_roomThere THo_X10_roomThere ?_ (vc_X10_roomThere E)
  exact fun p e s m args below meth c X pc n mc ms sp2 h => by
    have h2 := zk_lka_mem h
    simp only [List.mem_cons, List.not_mem_nil, or_false, Prod.mk.injEq] at h2
    rcases h2 with ⟨rfl, rfl, rfl, rfl, rfl⟩
    exact zk_coS (idx := 41) X (ct_X10_isWithin hl E) (List.forall_mem_cons.mpr ⟨zk_wi 28 (by decide +kernel) rfl, List.forall_mem_cons.mpr ⟨zk_wi 29 (by decide +kernel) rfl, List.forall_mem_cons.mpr ⟨zk_wi 2 (by decide +kernel) rfl, List.forall_mem_cons.mpr ⟨zk_wi 30 (by decide +kernel) rfl, fun _ h => absurd h List.not_mem_nil⟩⟩⟩⟩) (by decide +kernel) ⟨by decide, by decide, by decide +kernel⟩ ⟨by decide, by decide⟩
def sp_X10_doorThere (E : zk_E) : zk_Sp zk_S := fun av σ sz P PX => match av with
  | [.ref a, .int r] => a = zk_ad E 0 ∧ (∀ b, m_isIn r 0 39 = true → σ.2.2.1 3 r.toNatClampNeg = some b → P (some (.ref b)) σ sz) ∧ ((m_isIn r 0 39 = false ∨ σ.2.2.1 3 r.toNatClampNeg = none) → TX σ sz "java/lang/IndexOutOfBoundsException" PX)
  | _ => False
theorem spe_X10_doorThere (E : zk_E) (a : Nat) (r : Int32) (σ : zk_S) (sz : Nat) (P : zk_P zk_S) (PX : zk_X zk_S) : sp_X10_doorThere E [.ref a, .int r] σ sz P PX = (a = zk_ad E 0 ∧ (∀ b, m_isIn r 0 39 = true → σ.2.2.1 3 r.toNatClampNeg = some b → P (some (.ref b)) σ sz) ∧ ((m_isIn r 0 39 = false ∨ σ.2.2.1 3 r.toNatClampNeg = none) → TX σ sz "java/lang/IndexOutOfBoundsException" PX)) := propext Iff.rfl
def C_X10_doorThere (E : zk_E) : zk_Cl zk_S := zk_lka [(4, 3, 0, 0, sp_X10_isWithin E)]
theorem r_X10_doorThere (E : zk_E) (P : zk_P zk_S) (PX : zk_X zk_S) (K : Nat → zk_L → List Value → zk_W zk_S → Prop) : (∀ (n : Nat) (l0 l2 : Option Value) (y1 : Int32) (r : List Value) (σ : zk_S) (sz k c : Nat), zk_run E (zk_VT E) M_X10_doorThere (C_X10_doorThere E) P PX K (n + 1) 0 [l0, some (.int y1), l2] r (σ, sz, k, c) = zk_run E (zk_VT E) M_X10_doorThere (C_X10_doorThere E) P PX K n 1 [l0, some (.int y1), l2] (.int y1 :: r) (σ, sz, k, c)) ∧
  (∀ (n : Nat) (l0 l1 l2 : Option Value)  (r : List Value) (σ : zk_S) (sz k c : Nat), zk_run E (zk_VT E) M_X10_doorThere (C_X10_doorThere E) P PX K (n + 1) 1 [l0, l1, l2] r (σ, sz, k, c) = zk_run E (zk_VT E) M_X10_doorThere (C_X10_doorThere E) P PX K n 2 [l0, l1, l2] (.int (0) :: r) (σ, sz, k, c)) ∧
  (∀ (n : Nat) (l0 l1 l2 : Option Value)  (r : List Value) (σ : zk_S) (sz k c : Nat), zk_run E (zk_VT E) M_X10_doorThere (C_X10_doorThere E) P PX K (n + 1) 2 [l0, l1, l2] r (σ, sz, k, c) = zk_run E (zk_VT E) M_X10_doorThere (C_X10_doorThere E) P PX K n 4 [l0, l1, l2] (.int (39) :: r) (σ, sz, k, c)) ∧
  (∀ (n : Nat) (l0 l1 l2 : Option Value) (v0 : Value) (v1 : Value) (v2 : Value)  (σ : zk_S) (sz k c : Nat), zk_run E (zk_VT E) M_X10_doorThere (C_X10_doorThere E) P PX K (n + 1) 4 [l0, l1, l2] [v0, v1, v2] (σ, sz, k, c) = (k + 0 ≤ 1 ∧ c + 0 ≤ 6 ∧ (sp_X10_isWithin E) [v2, v1, v0] σ sz (fun v s2 z2 => zk_run E (zk_VT E) M_X10_doorThere (C_X10_doorThere E) P PX K n 7 [l0, l1, l2] (zk_psh v []) (s2, z2, k + 0, c + 0)) (fun X s2 z2 => PX X s2 z2))) ∧
  (∀ (n : Nat) (l0 l1 l2 : Option Value) (x : Int32) (r : List Value) (σ : zk_S) (sz k c : Nat), zk_run E (zk_VT E) M_X10_doorThere (C_X10_doorThere E) P PX K (n + 1) 7 [l0, l1, l2] (.int x :: r) (σ, sz, k, c) = ((x = 0 → zk_run E (zk_VT E) M_X10_doorThere (C_X10_doorThere E) P PX K n 22 [l0, l1, l2] r (σ, sz, k, c)) ∧ (¬ (x = 0) → zk_run E (zk_VT E) M_X10_doorThere (C_X10_doorThere E) P PX K n 10 [l0, l1, l2] r (σ, sz, k, c)))) ∧
  (∀ (n : Nat) (l1 l2 : Option Value) (y0 : Value) (r : List Value) (σ : zk_S) (sz k c : Nat), zk_run E (zk_VT E) M_X10_doorThere (C_X10_doorThere E) P PX K (n + 1) 10 [some y0, l1, l2] r (σ, sz, k, c) = (zk_isr y0 ∧ zk_run E (zk_VT E) M_X10_doorThere (C_X10_doorThere E) P PX K n 11 [some y0, l1, l2] (y0 :: r) (σ, sz, k, c))) ∧
  (∀ (n : Nat) (l0 l1 l2 : Option Value) (a : Nat) (r : List Value) (σ : zk_S) (sz k c : Nat), zk_run E (zk_VT E) M_X10_doorThere (C_X10_doorThere E) P PX K (n + 1) 11 [l0, l1, l2] (.ref a :: r) (σ, sz, k, c) = zk_fld (zk_view E σ a) [9] 0 (fun v => zk_run E (zk_VT E) M_X10_doorThere (C_X10_doorThere E) P PX K n 14 [l0, l1, l2] (v :: r) (σ, sz, k, c))) ∧
  (∀ (n : Nat) (l0 l1 l2 : Option Value) (a : Nat) (r : List Value) (σ : zk_S) (sz k c : Nat), zk_run E (zk_VT E) M_X10_doorThere (C_X10_doorThere E) P PX K (n + 1) 14 [l0, l1, l2] (.ref a :: r) (σ, sz, k, c) = zk_fld (zk_view E σ a) [4] 1 (fun v => zk_run E (zk_VT E) M_X10_doorThere (C_X10_doorThere E) P PX K n 17 [l0, l1, l2] (v :: r) (σ, sz, k, c))) ∧
  (∀ (n : Nat) (l0 l2 : Option Value) (y1 : Int32) (r : List Value) (σ : zk_S) (sz k c : Nat), zk_run E (zk_VT E) M_X10_doorThere (C_X10_doorThere E) P PX K (n + 1) 17 [l0, some (.int y1), l2] r (σ, sz, k, c) = zk_run E (zk_VT E) M_X10_doorThere (C_X10_doorThere E) P PX K n 18 [l0, some (.int y1), l2] (.int y1 :: r) (σ, sz, k, c)) ∧
  (∀ (n : Nat) (l0 l1 l2 : Option Value) (a : Nat) (i : Int32) (r : List Value) (σ : zk_S) (sz k c : Nat), zk_run E (zk_VT E) M_X10_doorThere (C_X10_doorThere E) P PX K (n + 1) 18 [l0, l1, l2] (.int i :: .ref a :: r) (σ, sz, k, c) = zk_qld (zk_view E σ a) i [zk_ar E 3, zk_ar E 4, zk_ar E 5, zk_ar E 6, zk_ar E 7] (fun x => (x = none → zk_run E (zk_VT E) M_X10_doorThere (C_X10_doorThere E) P PX K n 19 [l0, l1, l2] (.null :: r) (σ, sz, k, c)) ∧ ∀ b, x = some b → zk_run E (zk_VT E) M_X10_doorThere (C_X10_doorThere E) P PX K n 19 [l0, l1, l2] (.ref b :: r) (σ, sz, k, c))) ∧
  (∀ (n : Nat) (l0 l1 l2 : Option Value)  (r : List Value) (σ : zk_S) (sz k c : Nat), zk_run E (zk_VT E) M_X10_doorThere (C_X10_doorThere E) P PX K (n + 1) 19 [l0, l1, l2] r (σ, sz, k, c) = zk_run E (zk_VT E) M_X10_doorThere (C_X10_doorThere E) P PX K n 23 [l0, l1, l2] r (σ, sz, k, c)) ∧
  (∀ (n : Nat) (l0 l1 l2 : Option Value)  (r : List Value) (σ : zk_S) (sz k c : Nat), zk_run E (zk_VT E) M_X10_doorThere (C_X10_doorThere E) P PX K (n + 1) 22 [l0, l1, l2] r (σ, sz, k, c) = zk_run E (zk_VT E) M_X10_doorThere (C_X10_doorThere E) P PX K n 23 [l0, l1, l2] (.null :: r) (σ, sz, k, c)) ∧
  (∀ (n : Nat) (l0 l1 l2 : Option Value) (x : Value) (r : List Value) (σ : zk_S) (sz k c : Nat), zk_run E (zk_VT E) M_X10_doorThere (C_X10_doorThere E) P PX K (n + 1) 23 [l0, l1, l2] (x :: r) (σ, sz, k, c) = (zk_isr x ∧ zk_run E (zk_VT E) M_X10_doorThere (C_X10_doorThere E) P PX K n 24 [l0, zk_kl l1, some (x)] r (σ, sz, k, c))) ∧
  (∀ (n : Nat) (l0 l1 : Option Value) (y2 : Value) (r : List Value) (σ : zk_S) (sz k c : Nat), zk_run E (zk_VT E) M_X10_doorThere (C_X10_doorThere E) P PX K (n + 1) 24 [l0, l1, some y2] r (σ, sz, k, c) = (zk_isr y2 ∧ zk_run E (zk_VT E) M_X10_doorThere (C_X10_doorThere E) P PX K n 25 [l0, l1, some y2] (y2 :: r) (σ, sz, k, c))) ∧
  (∀ (n : Nat) (l0 l1 l2 : Option Value) (v : Value) (r : List Value) (σ : zk_S) (sz k c : Nat), zk_run E (zk_VT E) M_X10_doorThere (C_X10_doorThere E) P PX K (n + 1) 25 [l0, l1, l2] (v :: r) (σ, sz, k, c) = (zk_isr v ∧ (¬ v = .null → zk_run E (zk_VT E) M_X10_doorThere (C_X10_doorThere E) P PX K n 39 [l0, l1, l2] r (σ, sz, k, c)) ∧ (¬ (¬ v = .null) → zk_run E (zk_VT E) M_X10_doorThere (C_X10_doorThere E) P PX K n 28 [l0, l1, l2] r (σ, sz, k, c)))) ∧
  (∀ (n : Nat) (l0 l1 l2 : Option Value)   (σ : zk_S) (sz k c : Nat), zk_run E (zk_VT E) M_X10_doorThere (C_X10_doorThere E) P PX K (n + 1) 28 [l0, l1, l2] [] (σ, sz, k, c) = (([] : List Value) = [] ∧ (∀ z2, sz ≤ z2 → PX "java/lang/IndexOutOfBoundsException" σ z2) ∧ k + 1 ≤ 1 ∧ c + 6 ≤ 6)) ∧
  (∀ (n : Nat) (l0 l1 : Option Value) (y2 : Value) (r : List Value) (σ : zk_S) (sz k c : Nat), zk_run E (zk_VT E) M_X10_doorThere (C_X10_doorThere E) P PX K (n + 1) 39 [l0, l1, some y2] r (σ, sz, k, c) = (zk_isr y2 ∧ zk_run E (zk_VT E) M_X10_doorThere (C_X10_doorThere E) P PX K n 40 [l0, l1, some y2] (y2 :: r) (σ, sz, k, c))) ∧
  (∀ (n : Nat) (l0 l1 l2 : Option Value) (x : Value)  (σ : zk_S) (sz k c : Nat), zk_run E (zk_VT E) M_X10_doorThere (C_X10_doorThere E) P PX K (n + 1) 40 [l0, l1, l2] [x] (σ, sz, k, c) = (zk_isr x ∧ P (some (x)) σ sz ∧ k ≤ 1 ∧ c ≤ 6)) ∧
  (∀ (n : Nat) (l0 l1 l2 : Option Value) (r : List Value) (w : zk_W zk_S), zk_go E (zk_VT E) M_X10_doorThere (C_X10_doorThere E) P PX K n 0 [l0, l1, l2] r w = zk_run E (zk_VT E) M_X10_doorThere (C_X10_doorThere E) P PX K (n + 1) 0 [l0, l1, l2] r w) := ⟨by intros; rfl, by intros; rfl, by intros; rfl, by intros; rfl, by intros; rfl, by intros; rfl, by intros; rfl, by intros; rfl, by intros; rfl, by intros; rfl, by intros; rfl, by intros; rfl, by intros; rfl, by intros; rfl, by intros; rfl, by intros; rfl, by intros; rfl, by intros; rfl, by intros; rfl⟩
theorem vc_X10_doorThere (E : zk_E) : zk_VC E (zk_VT E) M_X10_doorThere (C_X10_doorThere E) 3 (sp_X10_doorThere E) := by
  intro av σ sz P PX h
  obtain ⟨J, N, Q, O, U⟩ := σ
  unfold sp_X10_doorThere at h
  split at h
  case h_2 => exact h.elim
  rename_i a0 r
  obtain ⟨rfl, h⟩ := h
  refine ⟨Nat.le_of_ble_eq_true rfl, fun G hG => ?_⟩
  change G 0 [some (.ref (zk_ad E 0)), some (.int r), none] [] ((J, N, Q, O, U), sz, 0, 0)
  try dsimp only at h
  obtain ⟨h1, h2⟩ := h
  cases q : m_isIn r 0 39 with
  | false =>
    have h3 := h2 (Or.inl q)
    (refine hG 900 _ _ _ _ ?_; simp only [r_X10_doorThere, zk_kl_none, zk_kl_int, zk_kl_ref, zk_kl_null, zk_kl_long, zk_kl_rf, zk_isr_ref, zk_isr_null, zk_isr_rf9, zk_c1_int, zk_c1_ref, zk_c1_null, zk_c1_rf, zk_psh_some, zk_psh_none, zk_nok_int, zk_nok_bool0, zk_nok_bool1, zk_nok_b, zk_fok_0, zk_fok_1, zk_fok_2, zk_fok_n, zk_fok_rf, zb_f, zb_p, zb_i, zb_a, zb_s, zk_nth_0, zk_nth_s, zk_fld_o, zk_put_o, zk_rv_eq, zk_ri_eq, zk_is_o, List.mem_cons, List.not_mem_nil, or_false, false_or, or_true, true_or, and_true, true_and, not_false_iff, not_true_eq_false, true_implies, false_implies, imp_self, implies_true, forall_const, zk_lit, zk_uj_ap, zk_un_ap, zk_un_un, zk_uj_uj, Nat.reduceEqDiff, eq_self, zk_bq, Bool.true_or, Bool.false_or, Nat.le_refl, Nat.zero_add, Nat.add_zero, Nat.reduceAdd, Nat.reduceLeDiff, Nat.le_zero_eq, and_self, and_false, false_and, ite_true, ite_false, Nat.zero_le, List.length_cons, List.length_nil, Option.some.injEq, forall_eq', reduceCtorEq, spe_X10_isWithin, q, zk_b0])
    exact h3
  | true =>
    have q' := q
    rw [show (39 : Int32) = nI 40 - 1 by decide] at q'
    obtain ⟨k, hk, rfl⟩ := m_isIn_lt (by decide) q'
    have hin : vp_in (nI k) 40 := n_in hk (by decide)
    cases hq : Q 3 (nI k).toNatClampNeg with
    | none =>
      have h3 := h2 (Or.inr hq)
      (refine hG 900 _ _ _ _ ?_; simp only [r_X10_doorThere, zk_kl_none, zk_kl_int, zk_kl_ref, zk_kl_null, zk_kl_long, zk_kl_rf, zk_isr_ref, zk_isr_null, zk_isr_rf9, zk_c1_int, zk_c1_ref, zk_c1_null, zk_c1_rf, zk_psh_some, zk_psh_none, zk_nok_int, zk_nok_bool0, zk_nok_bool1, zk_nok_b, zk_fok_0, zk_fok_1, zk_fok_2, zk_fok_n, zk_fok_rf, zb_f, zb_p, zb_i, zb_a, zb_s, zk_nth_0, zk_nth_s, zk_fld_o, zk_put_o, zk_rv_eq, zk_ri_eq, zk_is_o, List.mem_cons, List.not_mem_nil, or_false, false_or, or_true, true_or, and_true, true_and, not_false_iff, not_true_eq_false, true_implies, false_implies, imp_self, implies_true, forall_const, zk_lit, zk_uj_ap, zk_un_ap, zk_un_un, zk_uj_uj, Nat.reduceEqDiff, eq_self, zk_bq, Bool.true_or, Bool.false_or, Nat.le_refl, Nat.zero_add, Nat.add_zero, Nat.reduceAdd, Nat.reduceLeDiff, Nat.le_zero_eq, and_self, and_false, false_and, ite_true, ite_false, Nat.zero_le, List.length_cons, List.length_nil, Option.some.injEq, forall_eq', reduceCtorEq, spe_X10_isWithin, q, zk_b0, Bool.true_eq_false, hin, hq])
      exact h3
    | some b =>
      have h3 := h1 b q hq
      (refine hG 900 _ _ _ _ ?_; simp only [r_X10_doorThere, zk_kl_none, zk_kl_int, zk_kl_ref, zk_kl_null, zk_kl_long, zk_kl_rf, zk_isr_ref, zk_isr_null, zk_isr_rf9, zk_c1_int, zk_c1_ref, zk_c1_null, zk_c1_rf, zk_psh_some, zk_psh_none, zk_nok_int, zk_nok_bool0, zk_nok_bool1, zk_nok_b, zk_fok_0, zk_fok_1, zk_fok_2, zk_fok_n, zk_fok_rf, zb_f, zb_p, zb_i, zb_a, zb_s, zk_nth_0, zk_nth_s, zk_fld_o, zk_put_o, zk_rv_eq, zk_ri_eq, zk_is_o, List.mem_cons, List.not_mem_nil, or_false, false_or, or_true, true_or, and_true, true_and, not_false_iff, not_true_eq_false, true_implies, false_implies, imp_self, implies_true, forall_const, zk_lit, zk_uj_ap, zk_un_ap, zk_un_un, zk_uj_uj, Nat.reduceEqDiff, eq_self, zk_bq, Bool.true_or, Bool.false_or, Nat.le_refl, Nat.zero_add, Nat.add_zero, Nat.reduceAdd, Nat.reduceLeDiff, Nat.le_zero_eq, and_self, and_false, false_and, ite_true, ite_false, Nat.zero_le, List.length_cons, List.length_nil, Option.some.injEq, forall_eq', reduceCtorEq, spe_X10_isWithin, q, zk_b0, Bool.true_eq_false, hin, hq])
      exact h3
theorem ct_X10_doorThere {l : Launch} (hl : l.stackTraces = false) (E : zk_E) : zk_C l E (zk_VT E) yX10_doorThere cX10_doorThere 3 (some ((.object "ClerestoryPlan$Door"))) rm_X10_doorThere (sp_X10_doorThere E) := by
  refine zk_meth (M := M_X10_doorThere) (C := C_X10_doorThere E) hl (by decide +kernel) rfl (fun _ _ => rfl) (zk_VT_ok E) MO_X10_doorThere TO_X10_doorThere THo_X10_doorThere ?_ (vc_X10_doorThere E)
  exact fun p e s m args below meth c X pc n mc ms sp2 h => by
    have h2 := zk_lka_mem h
    simp only [List.mem_cons, List.not_mem_nil, or_false, Prod.mk.injEq] at h2
    rcases h2 with ⟨rfl, rfl, rfl, rfl, rfl⟩
    exact zk_coS (idx := 41) X (ct_X10_isWithin hl E) (List.forall_mem_cons.mpr ⟨zk_wi 28 (by decide +kernel) rfl, List.forall_mem_cons.mpr ⟨zk_wi 29 (by decide +kernel) rfl, List.forall_mem_cons.mpr ⟨zk_wi 2 (by decide +kernel) rfl, List.forall_mem_cons.mpr ⟨zk_wi 30 (by decide +kernel) rfl, fun _ h => absurd h List.not_mem_nil⟩⟩⟩⟩) (by decide +kernel) ⟨by decide, by decide, by decide +kernel⟩ ⟨by decide, by decide⟩
def sp_X10_checkTick (E : zk_E) : zk_Sp zk_S := fun av σ sz P PX => match av with
  | [.int t] => (m_isIn t 0 999 = true → P none σ sz) ∧ (m_isIn t 0 999 = false → TX σ sz "java/lang/IllegalArgumentException" PX)
  | _ => False
theorem spe_X10_checkTick (E : zk_E) (t : Int32) (σ : zk_S) (sz : Nat) (P : zk_P zk_S) (PX : zk_X zk_S) : sp_X10_checkTick E [.int t] σ sz P PX = ((m_isIn t 0 999 = true → P none σ sz) ∧ (m_isIn t 0 999 = false → TX σ sz "java/lang/IllegalArgumentException" PX)) := propext Iff.rfl
def C_X10_checkTick (E : zk_E) : zk_Cl zk_S := zk_lka [(5, 3, 0, 0, sp_X10_isWithin E)]
theorem r_X10_checkTick (E : zk_E) (P : zk_P zk_S) (PX : zk_X zk_S) (K : Nat → zk_L → List Value → zk_W zk_S → Prop) : (∀ (n : Nat)  (y0 : Int32) (r : List Value) (σ : zk_S) (sz k c : Nat), zk_run E (zk_VT E) M_X10_checkTick (C_X10_checkTick E) P PX K (n + 1) 0 [some (.int y0)] r (σ, sz, k, c) = zk_run E (zk_VT E) M_X10_checkTick (C_X10_checkTick E) P PX K n 1 [some (.int y0)] (.int y0 :: r) (σ, sz, k, c)) ∧
  (∀ (n : Nat) (l0 : Option Value)  (r : List Value) (σ : zk_S) (sz k c : Nat), zk_run E (zk_VT E) M_X10_checkTick (C_X10_checkTick E) P PX K (n + 1) 1 [l0] r (σ, sz, k, c) = zk_run E (zk_VT E) M_X10_checkTick (C_X10_checkTick E) P PX K n 2 [l0] (.int (0) :: r) (σ, sz, k, c)) ∧
  (∀ (n : Nat) (l0 : Option Value)  (r : List Value) (σ : zk_S) (sz k c : Nat), zk_run E (zk_VT E) M_X10_checkTick (C_X10_checkTick E) P PX K (n + 1) 2 [l0] r (σ, sz, k, c) = zk_run E (zk_VT E) M_X10_checkTick (C_X10_checkTick E) P PX K n 5 [l0] (.int (999) :: r) (σ, sz, k, c)) ∧
  (∀ (n : Nat) (l0 : Option Value) (v0 : Value) (v1 : Value) (v2 : Value)  (σ : zk_S) (sz k c : Nat), zk_run E (zk_VT E) M_X10_checkTick (C_X10_checkTick E) P PX K (n + 1) 5 [l0] [v0, v1, v2] (σ, sz, k, c) = (k + 0 ≤ 1 ∧ c + 0 ≤ 6 ∧ (sp_X10_isWithin E) [v2, v1, v0] σ sz (fun v s2 z2 => zk_run E (zk_VT E) M_X10_checkTick (C_X10_checkTick E) P PX K n 8 [l0] (zk_psh v []) (s2, z2, k + 0, c + 0)) (fun X s2 z2 => PX X s2 z2))) ∧
  (∀ (n : Nat) (l0 : Option Value) (x : Int32) (r : List Value) (σ : zk_S) (sz k c : Nat), zk_run E (zk_VT E) M_X10_checkTick (C_X10_checkTick E) P PX K (n + 1) 8 [l0] (.int x :: r) (σ, sz, k, c) = ((¬ x = 0 → zk_run E (zk_VT E) M_X10_checkTick (C_X10_checkTick E) P PX K n 22 [l0] r (σ, sz, k, c)) ∧ (¬ (¬ x = 0) → zk_run E (zk_VT E) M_X10_checkTick (C_X10_checkTick E) P PX K n 11 [l0] r (σ, sz, k, c)))) ∧
  (∀ (n : Nat) (l0 : Option Value)   (σ : zk_S) (sz k c : Nat), zk_run E (zk_VT E) M_X10_checkTick (C_X10_checkTick E) P PX K (n + 1) 11 [l0] [] (σ, sz, k, c) = (([] : List Value) = [] ∧ (∀ z2, sz ≤ z2 → PX "java/lang/IllegalArgumentException" σ z2) ∧ k + 1 ≤ 1 ∧ c + 6 ≤ 6)) ∧
  (∀ (n : Nat) (l0 : Option Value)   (σ : zk_S) (sz k c : Nat), zk_run E (zk_VT E) M_X10_checkTick (C_X10_checkTick E) P PX K (n + 1) 22 [l0] [] (σ, sz, k, c) = (P none σ sz ∧ k ≤ 1 ∧ c ≤ 6)) ∧
  (∀ (n : Nat) (l0 : Option Value) (r : List Value) (w : zk_W zk_S), zk_go E (zk_VT E) M_X10_checkTick (C_X10_checkTick E) P PX K n 0 [l0] r w = zk_run E (zk_VT E) M_X10_checkTick (C_X10_checkTick E) P PX K (n + 1) 0 [l0] r w) := ⟨by intros; rfl, by intros; rfl, by intros; rfl, by intros; rfl, by intros; rfl, by intros; rfl, by intros; rfl, by intros; rfl⟩
theorem vc_X10_checkTick (E : zk_E) : zk_VC E (zk_VT E) M_X10_checkTick (C_X10_checkTick E) 1 (sp_X10_checkTick E) := by
  intro av σ sz P PX h
  obtain ⟨J, N, Q, O, U⟩ := σ
  unfold sp_X10_checkTick at h
  split at h
  case h_2 => exact h.elim
  rename_i t
  refine ⟨Nat.le_of_ble_eq_true rfl, fun G hG => ?_⟩
  change G 0 [some (.int t)] [] ((J, N, Q, O, U), sz, 0, 0)
  try dsimp only at h
  obtain ⟨h1, h2⟩ := h
  cases q : m_isIn t 0 999 with
  | false =>
    have h3 := h2 q
    (refine hG 900 _ _ _ _ ?_; simp only [r_X10_checkTick, zk_kl_none, zk_kl_int, zk_kl_ref, zk_kl_null, zk_kl_long, zk_kl_rf, zk_isr_ref, zk_isr_null, zk_isr_rf9, zk_c1_int, zk_c1_ref, zk_c1_null, zk_c1_rf, zk_psh_some, zk_psh_none, zk_nok_int, zk_nok_bool0, zk_nok_bool1, zk_nok_b, zk_fok_0, zk_fok_1, zk_fok_2, zk_fok_n, zk_fok_rf, zb_f, zb_p, zb_i, zb_a, zb_s, zk_nth_0, zk_nth_s, zk_fld_o, zk_put_o, zk_rv_eq, zk_ri_eq, zk_is_o, List.mem_cons, List.not_mem_nil, or_false, false_or, or_true, true_or, and_true, true_and, not_false_iff, not_true_eq_false, true_implies, false_implies, imp_self, implies_true, forall_const, zk_lit, zk_uj_ap, zk_un_ap, zk_un_un, zk_uj_uj, Nat.reduceEqDiff, eq_self, zk_bq, Bool.true_or, Bool.false_or, Nat.le_refl, Nat.zero_add, Nat.add_zero, Nat.reduceAdd, Nat.reduceLeDiff, Nat.le_zero_eq, and_self, and_false, false_and, ite_true, ite_false, Nat.zero_le, List.length_cons, List.length_nil, Option.some.injEq, forall_eq', reduceCtorEq, spe_X10_isWithin, q, zk_b0])
    exact h3
  | true =>
    have h3 := h1 q
    (refine hG 900 _ _ _ _ ?_; simp only [r_X10_checkTick, zk_kl_none, zk_kl_int, zk_kl_ref, zk_kl_null, zk_kl_long, zk_kl_rf, zk_isr_ref, zk_isr_null, zk_isr_rf9, zk_c1_int, zk_c1_ref, zk_c1_null, zk_c1_rf, zk_psh_some, zk_psh_none, zk_nok_int, zk_nok_bool0, zk_nok_bool1, zk_nok_b, zk_fok_0, zk_fok_1, zk_fok_2, zk_fok_n, zk_fok_rf, zb_f, zb_p, zb_i, zb_a, zb_s, zk_nth_0, zk_nth_s, zk_fld_o, zk_put_o, zk_rv_eq, zk_ri_eq, zk_is_o, List.mem_cons, List.not_mem_nil, or_false, false_or, or_true, true_or, and_true, true_and, not_false_iff, not_true_eq_false, true_implies, false_implies, imp_self, implies_true, forall_const, zk_lit, zk_uj_ap, zk_un_ap, zk_un_un, zk_uj_uj, Nat.reduceEqDiff, eq_self, zk_bq, Bool.true_or, Bool.false_or, Nat.le_refl, Nat.zero_add, Nat.add_zero, Nat.reduceAdd, Nat.reduceLeDiff, Nat.le_zero_eq, and_self, and_false, false_and, ite_true, ite_false, Nat.zero_le, List.length_cons, List.length_nil, Option.some.injEq, forall_eq', reduceCtorEq, spe_X10_isWithin, q, zk_b0, Bool.true_eq_false])
    exact h3
theorem ct_X10_checkTick {l : Launch} (hl : l.stackTraces = false) (E : zk_E) : zk_C l E (zk_VT E) yX10_checkTick cX10_checkTick 1 (none) rm_X10_checkTick (sp_X10_checkTick E) := by
  refine zk_meth (M := M_X10_checkTick) (C := C_X10_checkTick E) hl (by decide +kernel) rfl (fun _ _ => rfl) (zk_VT_ok E) MO_X10_checkTick TO_X10_checkTick THo_X10_checkTick ?_ (vc_X10_checkTick E)
  exact fun p e s m args below meth c X pc n mc ms sp2 h => by
    have h2 := zk_lka_mem h
    simp only [List.mem_cons, List.not_mem_nil, or_false, Prod.mk.injEq] at h2
    rcases h2 with ⟨rfl, rfl, rfl, rfl, rfl⟩
    exact zk_coS (idx := 41) X (ct_X10_isWithin hl E) (List.forall_mem_cons.mpr ⟨zk_wi 28 (by decide +kernel) rfl, List.forall_mem_cons.mpr ⟨zk_wi 29 (by decide +kernel) rfl, List.forall_mem_cons.mpr ⟨zk_wi 2 (by decide +kernel) rfl, List.forall_mem_cons.mpr ⟨zk_wi 30 (by decide +kernel) rfl, fun _ h => absurd h List.not_mem_nil⟩⟩⟩⟩) (by decide +kernel) ⟨by decide, by decide, by decide +kernel⟩ ⟨by decide, by decide⟩
def sp_X10_checkFault (E : zk_E) : zk_Sp zk_S := fun av σ sz P PX => match av with
  | [.ref a, .int i] => a = zk_ad E 0 ∧ (m_isIn i 0 (σ.1 18 3 - 1) = true → P none σ sz) ∧ (m_isIn i 0 (σ.1 18 3 - 1) = false → TX σ sz "java/lang/IndexOutOfBoundsException" PX)
  | _ => False
theorem spe_X10_checkFault (E : zk_E) (a : Nat) (i : Int32) (σ : zk_S) (sz : Nat) (P : zk_P zk_S) (PX : zk_X zk_S) : sp_X10_checkFault E [.ref a, .int i] σ sz P PX = (a = zk_ad E 0 ∧ (m_isIn i 0 (σ.1 18 3 - 1) = true → P none σ sz) ∧ (m_isIn i 0 (σ.1 18 3 - 1) = false → TX σ sz "java/lang/IndexOutOfBoundsException" PX)) := propext Iff.rfl
def C_X10_checkFault (E : zk_E) : zk_Cl zk_S := zk_lka [(11, 3, 0, 0, sp_X10_isWithin E)]
theorem r_X10_checkFault (E : zk_E) (P : zk_P zk_S) (PX : zk_X zk_S) (K : Nat → zk_L → List Value → zk_W zk_S → Prop) : (∀ (n : Nat) (l0 : Option Value) (y1 : Int32) (r : List Value) (σ : zk_S) (sz k c : Nat), zk_run E (zk_VT E) M_X10_checkFault (C_X10_checkFault E) P PX K (n + 1) 0 [l0, some (.int y1)] r (σ, sz, k, c) = zk_run E (zk_VT E) M_X10_checkFault (C_X10_checkFault E) P PX K n 1 [l0, some (.int y1)] (.int y1 :: r) (σ, sz, k, c)) ∧
  (∀ (n : Nat) (l0 l1 : Option Value)  (r : List Value) (σ : zk_S) (sz k c : Nat), zk_run E (zk_VT E) M_X10_checkFault (C_X10_checkFault E) P PX K (n + 1) 1 [l0, l1] r (σ, sz, k, c) = zk_run E (zk_VT E) M_X10_checkFault (C_X10_checkFault E) P PX K n 2 [l0, l1] (.int (0) :: r) (σ, sz, k, c)) ∧
  (∀ (n : Nat) (l1 : Option Value) (y0 : Value) (r : List Value) (σ : zk_S) (sz k c : Nat), zk_run E (zk_VT E) M_X10_checkFault (C_X10_checkFault E) P PX K (n + 1) 2 [some y0, l1] r (σ, sz, k, c) = (zk_isr y0 ∧ zk_run E (zk_VT E) M_X10_checkFault (C_X10_checkFault E) P PX K n 3 [some y0, l1] (y0 :: r) (σ, sz, k, c))) ∧
  (∀ (n : Nat) (l0 l1 : Option Value) (a : Nat) (r : List Value) (σ : zk_S) (sz k c : Nat), zk_run E (zk_VT E) M_X10_checkFault (C_X10_checkFault E) P PX K (n + 1) 3 [l0, l1] (.ref a :: r) (σ, sz, k, c) = zk_fld (zk_view E σ a) [9] 3 (fun v => zk_run E (zk_VT E) M_X10_checkFault (C_X10_checkFault E) P PX K n 6 [l0, l1] (v :: r) (σ, sz, k, c))) ∧
  (∀ (n : Nat) (l0 l1 : Option Value) (a : Nat) (r : List Value) (σ : zk_S) (sz k c : Nat), zk_run E (zk_VT E) M_X10_checkFault (C_X10_checkFault E) P PX K (n + 1) 6 [l0, l1] (.ref a :: r) (σ, sz, k, c) = zk_fld (zk_view E σ a) [2] 3 (fun v => zk_run E (zk_VT E) M_X10_checkFault (C_X10_checkFault E) P PX K n 9 [l0, l1] (v :: r) (σ, sz, k, c))) ∧
  (∀ (n : Nat) (l0 l1 : Option Value)  (r : List Value) (σ : zk_S) (sz k c : Nat), zk_run E (zk_VT E) M_X10_checkFault (C_X10_checkFault E) P PX K (n + 1) 9 [l0, l1] r (σ, sz, k, c) = zk_run E (zk_VT E) M_X10_checkFault (C_X10_checkFault E) P PX K n 10 [l0, l1] (.int (1) :: r) (σ, sz, k, c)) ∧
  (∀ (n : Nat) (l0 l1 : Option Value) (x y : Int32) (r : List Value) (σ : zk_S) (sz k c : Nat), zk_run E (zk_VT E) M_X10_checkFault (C_X10_checkFault E) P PX K (n + 1) 10 [l0, l1] (.int y :: .int x :: r) (σ, sz, k, c) = zk_run E (zk_VT E) M_X10_checkFault (C_X10_checkFault E) P PX K n 11 [l0, l1] (.int (x - y) :: r) (σ, sz, k, c)) ∧
  (∀ (n : Nat) (l0 l1 : Option Value) (v0 : Value) (v1 : Value) (v2 : Value)  (σ : zk_S) (sz k c : Nat), zk_run E (zk_VT E) M_X10_checkFault (C_X10_checkFault E) P PX K (n + 1) 11 [l0, l1] [v0, v1, v2] (σ, sz, k, c) = (k + 0 ≤ 1 ∧ c + 0 ≤ 6 ∧ (sp_X10_isWithin E) [v2, v1, v0] σ sz (fun v s2 z2 => zk_run E (zk_VT E) M_X10_checkFault (C_X10_checkFault E) P PX K n 14 [l0, l1] (zk_psh v []) (s2, z2, k + 0, c + 0)) (fun X s2 z2 => PX X s2 z2))) ∧
  (∀ (n : Nat) (l0 l1 : Option Value) (x : Int32) (r : List Value) (σ : zk_S) (sz k c : Nat), zk_run E (zk_VT E) M_X10_checkFault (C_X10_checkFault E) P PX K (n + 1) 14 [l0, l1] (.int x :: r) (σ, sz, k, c) = ((¬ x = 0 → zk_run E (zk_VT E) M_X10_checkFault (C_X10_checkFault E) P PX K n 28 [l0, l1] r (σ, sz, k, c)) ∧ (¬ (¬ x = 0) → zk_run E (zk_VT E) M_X10_checkFault (C_X10_checkFault E) P PX K n 17 [l0, l1] r (σ, sz, k, c)))) ∧
  (∀ (n : Nat) (l0 l1 : Option Value)   (σ : zk_S) (sz k c : Nat), zk_run E (zk_VT E) M_X10_checkFault (C_X10_checkFault E) P PX K (n + 1) 17 [l0, l1] [] (σ, sz, k, c) = (([] : List Value) = [] ∧ (∀ z2, sz ≤ z2 → PX "java/lang/IndexOutOfBoundsException" σ z2) ∧ k + 1 ≤ 1 ∧ c + 6 ≤ 6)) ∧
  (∀ (n : Nat) (l0 l1 : Option Value)   (σ : zk_S) (sz k c : Nat), zk_run E (zk_VT E) M_X10_checkFault (C_X10_checkFault E) P PX K (n + 1) 28 [l0, l1] [] (σ, sz, k, c) = (P none σ sz ∧ k ≤ 1 ∧ c ≤ 6)) ∧
  (∀ (n : Nat) (l0 l1 : Option Value) (r : List Value) (w : zk_W zk_S), zk_go E (zk_VT E) M_X10_checkFault (C_X10_checkFault E) P PX K n 0 [l0, l1] r w = zk_run E (zk_VT E) M_X10_checkFault (C_X10_checkFault E) P PX K (n + 1) 0 [l0, l1] r w) := ⟨by intros; rfl, by intros; rfl, by intros; rfl, by intros; rfl, by intros; rfl, by intros; rfl, by intros; rfl, by intros; rfl, by intros; rfl, by intros; rfl, by intros; rfl, by intros; rfl⟩
theorem vc_X10_checkFault (E : zk_E) : zk_VC E (zk_VT E) M_X10_checkFault (C_X10_checkFault E) 2 (sp_X10_checkFault E) := by
  intro av σ sz P PX h
  obtain ⟨J, N, Q, O, U⟩ := σ
  unfold sp_X10_checkFault at h
  split at h
  case h_2 => exact h.elim
  rename_i a0 i
  obtain ⟨rfl, h⟩ := h
  refine ⟨Nat.le_of_ble_eq_true rfl, fun G hG => ?_⟩
  change G 0 [some (.ref (zk_ad E 0)), some (.int i)] [] ((J, N, Q, O, U), sz, 0, 0)
  try dsimp only at h
  obtain ⟨h1, h2⟩ := h
  cases q : m_isIn i 0 (J 18 3 - 1) with
  | false =>
    have h3 := h2 q
    (refine hG 900 _ _ _ _ ?_; simp only [r_X10_checkFault, zk_kl_none, zk_kl_int, zk_kl_ref, zk_kl_null, zk_kl_long, zk_kl_rf, zk_isr_ref, zk_isr_null, zk_isr_rf9, zk_c1_int, zk_c1_ref, zk_c1_null, zk_c1_rf, zk_psh_some, zk_psh_none, zk_nok_int, zk_nok_bool0, zk_nok_bool1, zk_nok_b, zk_fok_0, zk_fok_1, zk_fok_2, zk_fok_n, zk_fok_rf, zb_f, zb_p, zb_i, zb_a, zb_s, zk_nth_0, zk_nth_s, zk_fld_o, zk_put_o, zk_rv_eq, zk_ri_eq, zk_is_o, List.mem_cons, List.not_mem_nil, or_false, false_or, or_true, true_or, and_true, true_and, not_false_iff, not_true_eq_false, true_implies, false_implies, imp_self, implies_true, forall_const, zk_lit, zk_uj_ap, zk_un_ap, zk_un_un, zk_uj_uj, Nat.reduceEqDiff, eq_self, zk_bq, Bool.true_or, Bool.false_or, Nat.le_refl, Nat.zero_add, Nat.add_zero, Nat.reduceAdd, Nat.reduceLeDiff, Nat.le_zero_eq, and_self, and_false, false_and, ite_true, ite_false, Nat.zero_le, List.length_cons, List.length_nil, Option.some.injEq, forall_eq', reduceCtorEq, spe_X10_isWithin, q, zk_b0])
    exact h3
  | true =>
    have h3 := h1 q
    (refine hG 900 _ _ _ _ ?_; simp only [r_X10_checkFault, zk_kl_none, zk_kl_int, zk_kl_ref, zk_kl_null, zk_kl_long, zk_kl_rf, zk_isr_ref, zk_isr_null, zk_isr_rf9, zk_c1_int, zk_c1_ref, zk_c1_null, zk_c1_rf, zk_psh_some, zk_psh_none, zk_nok_int, zk_nok_bool0, zk_nok_bool1, zk_nok_b, zk_fok_0, zk_fok_1, zk_fok_2, zk_fok_n, zk_fok_rf, zb_f, zb_p, zb_i, zb_a, zb_s, zk_nth_0, zk_nth_s, zk_fld_o, zk_put_o, zk_rv_eq, zk_ri_eq, zk_is_o, List.mem_cons, List.not_mem_nil, or_false, false_or, or_true, true_or, and_true, true_and, not_false_iff, not_true_eq_false, true_implies, false_implies, imp_self, implies_true, forall_const, zk_lit, zk_uj_ap, zk_un_ap, zk_un_un, zk_uj_uj, Nat.reduceEqDiff, eq_self, zk_bq, Bool.true_or, Bool.false_or, Nat.le_refl, Nat.zero_add, Nat.add_zero, Nat.reduceAdd, Nat.reduceLeDiff, Nat.le_zero_eq, and_self, and_false, false_and, ite_true, ite_false, Nat.zero_le, List.length_cons, List.length_nil, Option.some.injEq, forall_eq', reduceCtorEq, spe_X10_isWithin, q, zk_b0, Bool.true_eq_false])
    exact h3
theorem ct_X10_checkFault {l : Launch} (hl : l.stackTraces = false) (E : zk_E) : zk_C l E (zk_VT E) yX10_checkFault cX10_checkFault 2 (none) rm_X10_checkFault (sp_X10_checkFault E) := by
  refine zk_meth (M := M_X10_checkFault) (C := C_X10_checkFault E) hl (by decide +kernel) rfl (fun _ _ => rfl) (zk_VT_ok E) MO_X10_checkFault TO_X10_checkFault THo_X10_checkFault ?_ (vc_X10_checkFault E)
  exact fun p e s m args below meth c X pc n mc ms sp2 h => by
    have h2 := zk_lka_mem h
    simp only [List.mem_cons, List.not_mem_nil, or_false, Prod.mk.injEq] at h2
    rcases h2 with ⟨rfl, rfl, rfl, rfl, rfl⟩
    exact zk_coS (idx := 41) X (ct_X10_isWithin hl E) (List.forall_mem_cons.mpr ⟨zk_wi 28 (by decide +kernel) rfl, List.forall_mem_cons.mpr ⟨zk_wi 29 (by decide +kernel) rfl, List.forall_mem_cons.mpr ⟨zk_wi 2 (by decide +kernel) rfl, List.forall_mem_cons.mpr ⟨zk_wi 30 (by decide +kernel) rfl, fun _ h => absurd h List.not_mem_nil⟩⟩⟩⟩) (by decide +kernel) ⟨by decide, by decide, by decide +kernel⟩ ⟨by decide, by decide⟩
def sp_X10_mix (E : zk_E) : zk_Sp zk_S := fun av σ sz P PX => match av with
  | [.long d, .long v] => P (some (.long (d * 31 + v))) σ sz
  | _ => False
theorem spe_X10_mix (E : zk_E) (d : Int64) (v : Int64) (σ : zk_S) (sz : Nat) (P : zk_P zk_S) (PX : zk_X zk_S) : sp_X10_mix E [.long d, .long v] σ sz P PX = (P (some (.long (d * 31 + v))) σ sz) := propext Iff.rfl
def C_X10_mix (E : zk_E) : zk_Cl zk_S := zk_lka []
theorem r_X10_mix (E : zk_E) (P : zk_P zk_S) (PX : zk_X zk_S) (K : Nat → zk_L → List Value → zk_W zk_S → Prop) : (∀ (n : Nat) (l1 l2 l3 : Option Value) (y0 : Int64) (r : List Value) (σ : zk_S) (sz k c : Nat), zk_run E (zk_VT E) M_X10_mix (C_X10_mix E) P PX K (n + 1) 0 [some (.long y0), l1, l2, l3] r (σ, sz, k, c) = zk_run E (zk_VT E) M_X10_mix (C_X10_mix E) P PX K n 1 [some (.long y0), l1, l2, l3] (.long y0 :: r) (σ, sz, k, c)) ∧
  (∀ (n : Nat) (l0 l1 l2 l3 : Option Value)  (r : List Value) (σ : zk_S) (sz k c : Nat), zk_run E (zk_VT E) M_X10_mix (C_X10_mix E) P PX K (n + 1) 1 [l0, l1, l2, l3] r (σ, sz, k, c) = zk_run E (zk_VT E) M_X10_mix (C_X10_mix E) P PX K n 4 [l0, l1, l2, l3] (.long (31) :: r) (σ, sz, k, c)) ∧
  (∀ (n : Nat) (l0 l1 l2 l3 : Option Value) (x y : Int64) (r : List Value) (σ : zk_S) (sz k c : Nat), zk_run E (zk_VT E) M_X10_mix (C_X10_mix E) P PX K (n + 1) 4 [l0, l1, l2, l3] (.long y :: .long x :: r) (σ, sz, k, c) = zk_run E (zk_VT E) M_X10_mix (C_X10_mix E) P PX K n 5 [l0, l1, l2, l3] (.long (x * y) :: r) (σ, sz, k, c)) ∧
  (∀ (n : Nat) (l0 l1 l3 : Option Value) (y2 : Int64) (r : List Value) (σ : zk_S) (sz k c : Nat), zk_run E (zk_VT E) M_X10_mix (C_X10_mix E) P PX K (n + 1) 5 [l0, l1, some (.long y2), l3] r (σ, sz, k, c) = zk_run E (zk_VT E) M_X10_mix (C_X10_mix E) P PX K n 6 [l0, l1, some (.long y2), l3] (.long y2 :: r) (σ, sz, k, c)) ∧
  (∀ (n : Nat) (l0 l1 l2 l3 : Option Value) (x y : Int64) (r : List Value) (σ : zk_S) (sz k c : Nat), zk_run E (zk_VT E) M_X10_mix (C_X10_mix E) P PX K (n + 1) 6 [l0, l1, l2, l3] (.long y :: .long x :: r) (σ, sz, k, c) = zk_run E (zk_VT E) M_X10_mix (C_X10_mix E) P PX K n 7 [l0, l1, l2, l3] (.long (x + y) :: r) (σ, sz, k, c)) ∧
  (∀ (n : Nat) (l0 l1 l2 l3 : Option Value) (x : Int64)  (σ : zk_S) (sz k c : Nat), zk_run E (zk_VT E) M_X10_mix (C_X10_mix E) P PX K (n + 1) 7 [l0, l1, l2, l3] [.long x] (σ, sz, k, c) = (P (some (.long x)) σ sz ∧ k ≤ 0 ∧ c ≤ 0)) ∧
  (∀ (n : Nat) (l0 l1 l2 l3 : Option Value) (r : List Value) (w : zk_W zk_S), zk_go E (zk_VT E) M_X10_mix (C_X10_mix E) P PX K n 0 [l0, l1, l2, l3] r w = zk_run E (zk_VT E) M_X10_mix (C_X10_mix E) P PX K (n + 1) 0 [l0, l1, l2, l3] r w) := ⟨by intros; rfl, by intros; rfl, by intros; rfl, by intros; rfl, by intros; rfl, by intros; rfl, by intros; rfl⟩
theorem vc_X10_mix (E : zk_E) : zk_VC E (zk_VT E) M_X10_mix (C_X10_mix E) 4 (sp_X10_mix E) := by
  intro av σ sz P PX h
  obtain ⟨J, N, Q, O, U⟩ := σ
  unfold sp_X10_mix at h
  split at h
  case h_2 => exact h.elim
  rename_i d v
  refine ⟨Nat.le_of_ble_eq_true rfl, fun G hG => ?_⟩
  change G 0 [some (.long d), none, some (.long v), none] [] ((J, N, Q, O, U), sz, 0, 0)
  try dsimp only at h
  (refine hG 900 _ _ _ _ ?_; simp only [r_X10_mix, zk_kl_none, zk_kl_int, zk_kl_ref, zk_kl_null, zk_kl_long, zk_kl_rf, zk_isr_ref, zk_isr_null, zk_isr_rf9, zk_c1_int, zk_c1_ref, zk_c1_null, zk_c1_rf, zk_psh_some, zk_psh_none, zk_nok_int, zk_nok_bool0, zk_nok_bool1, zk_nok_b, zk_fok_0, zk_fok_1, zk_fok_2, zk_fok_n, zk_fok_rf, zb_f, zb_p, zb_i, zb_a, zb_s, zk_nth_0, zk_nth_s, zk_fld_o, zk_put_o, zk_rv_eq, zk_ri_eq, zk_is_o, List.mem_cons, List.not_mem_nil, or_false, false_or, or_true, true_or, and_true, true_and, not_false_iff, not_true_eq_false, true_implies, false_implies, imp_self, implies_true, forall_const, zk_lit, zk_uj_ap, zk_un_ap, zk_un_un, zk_uj_uj, Nat.reduceEqDiff, eq_self, zk_bq, Bool.true_or, Bool.false_or, Nat.le_refl, Nat.zero_add, Nat.add_zero, Nat.reduceAdd, Nat.reduceLeDiff, Nat.le_zero_eq, and_self, and_false, false_and, ite_true, ite_false, Nat.zero_le, List.length_cons, List.length_nil, Option.some.injEq, forall_eq', reduceCtorEq])
  exact h
theorem ct_X10_mix {l : Launch} (hl : l.stackTraces = false) (E : zk_E) : zk_C l E (zk_VT E) yX10_mix cX10_mix 4 (some (.long)) rm_X10_mix (sp_X10_mix E) := by
  refine zk_meth (M := M_X10_mix) (C := C_X10_mix E) hl (by decide +kernel) rfl (fun _ _ => rfl) (zk_VT_ok E) MO_X10_mix TO_X10_mix THo_X10_mix ?_ (vc_X10_mix E)
  exact fun p e s m args below meth c X pc n mc ms sp2 h => absurd (zk_lka_mem h) List.not_mem_nil
def w_less (x y : Int32) : Bool := decide (¬ x = -1) && (decide (y = -1) || decide (x < y))
def sp_X8_isLess (E : zk_E) : zk_Sp zk_S := fun av σ sz P PX => match av with
  | [.int x, .int y] => P (some (.int (zk_b (w_less x y)))) σ sz
  | _ => False
theorem spe_X8_isLess (E : zk_E) (x : Int32) (y : Int32) (σ : zk_S) (sz : Nat) (P : zk_P zk_S) (PX : zk_X zk_S) : sp_X8_isLess E [.int x, .int y] σ sz P PX = (P (some (.int (zk_b (w_less x y)))) σ sz) := propext Iff.rfl
def C_X8_isLess (E : zk_E) : zk_Cl zk_S := zk_lka []
theorem r_X8_isLess (E : zk_E) (P : zk_P zk_S) (PX : zk_X zk_S) (K : Nat → zk_L → List Value → zk_W zk_S → Prop) : (∀ (n : Nat) (l1 : Option Value) (y0 : Int32) (r : List Value) (σ : zk_S) (sz k c : Nat), zk_run E (zk_VT E) M_X8_isLess (C_X8_isLess E) P PX K (n + 1) 0 [some (.int y0), l1] r (σ, sz, k, c) = zk_run E (zk_VT E) M_X8_isLess (C_X8_isLess E) P PX K n 1 [some (.int y0), l1] (.int y0 :: r) (σ, sz, k, c)) ∧
  (∀ (n : Nat) (l0 l1 : Option Value)  (r : List Value) (σ : zk_S) (sz k c : Nat), zk_run E (zk_VT E) M_X8_isLess (C_X8_isLess E) P PX K (n + 1) 1 [l0, l1] r (σ, sz, k, c) = zk_run E (zk_VT E) M_X8_isLess (C_X8_isLess E) P PX K n 2 [l0, l1] (.int ((-1)) :: r) (σ, sz, k, c)) ∧
  (∀ (n : Nat) (l0 l1 : Option Value) (x y : Int32) (r : List Value) (σ : zk_S) (sz k c : Nat), zk_run E (zk_VT E) M_X8_isLess (C_X8_isLess E) P PX K (n + 1) 2 [l0, l1] (.int y :: .int x :: r) (σ, sz, k, c) = ((x = y → zk_run E (zk_VT E) M_X8_isLess (C_X8_isLess E) P PX K n 19 [l0, l1] r (σ, sz, k, c)) ∧ (¬ (x = y) → zk_run E (zk_VT E) M_X8_isLess (C_X8_isLess E) P PX K n 5 [l0, l1] r (σ, sz, k, c)))) ∧
  (∀ (n : Nat) (l0 : Option Value) (y1 : Int32) (r : List Value) (σ : zk_S) (sz k c : Nat), zk_run E (zk_VT E) M_X8_isLess (C_X8_isLess E) P PX K (n + 1) 5 [l0, some (.int y1)] r (σ, sz, k, c) = zk_run E (zk_VT E) M_X8_isLess (C_X8_isLess E) P PX K n 6 [l0, some (.int y1)] (.int y1 :: r) (σ, sz, k, c)) ∧
  (∀ (n : Nat) (l0 l1 : Option Value)  (r : List Value) (σ : zk_S) (sz k c : Nat), zk_run E (zk_VT E) M_X8_isLess (C_X8_isLess E) P PX K (n + 1) 6 [l0, l1] r (σ, sz, k, c) = zk_run E (zk_VT E) M_X8_isLess (C_X8_isLess E) P PX K n 7 [l0, l1] (.int ((-1)) :: r) (σ, sz, k, c)) ∧
  (∀ (n : Nat) (l0 l1 : Option Value) (x y : Int32) (r : List Value) (σ : zk_S) (sz k c : Nat), zk_run E (zk_VT E) M_X8_isLess (C_X8_isLess E) P PX K (n + 1) 7 [l0, l1] (.int y :: .int x :: r) (σ, sz, k, c) = ((x = y → zk_run E (zk_VT E) M_X8_isLess (C_X8_isLess E) P PX K n 15 [l0, l1] r (σ, sz, k, c)) ∧ (¬ (x = y) → zk_run E (zk_VT E) M_X8_isLess (C_X8_isLess E) P PX K n 10 [l0, l1] r (σ, sz, k, c)))) ∧
  (∀ (n : Nat) (l1 : Option Value) (y0 : Int32) (r : List Value) (σ : zk_S) (sz k c : Nat), zk_run E (zk_VT E) M_X8_isLess (C_X8_isLess E) P PX K (n + 1) 10 [some (.int y0), l1] r (σ, sz, k, c) = zk_run E (zk_VT E) M_X8_isLess (C_X8_isLess E) P PX K n 11 [some (.int y0), l1] (.int y0 :: r) (σ, sz, k, c)) ∧
  (∀ (n : Nat) (l0 : Option Value) (y1 : Int32) (r : List Value) (σ : zk_S) (sz k c : Nat), zk_run E (zk_VT E) M_X8_isLess (C_X8_isLess E) P PX K (n + 1) 11 [l0, some (.int y1)] r (σ, sz, k, c) = zk_run E (zk_VT E) M_X8_isLess (C_X8_isLess E) P PX K n 12 [l0, some (.int y1)] (.int y1 :: r) (σ, sz, k, c)) ∧
  (∀ (n : Nat) (l0 l1 : Option Value) (x y : Int32) (r : List Value) (σ : zk_S) (sz k c : Nat), zk_run E (zk_VT E) M_X8_isLess (C_X8_isLess E) P PX K (n + 1) 12 [l0, l1] (.int y :: .int x :: r) (σ, sz, k, c) = ((y ≤ x → zk_run E (zk_VT E) M_X8_isLess (C_X8_isLess E) P PX K n 19 [l0, l1] r (σ, sz, k, c)) ∧ (¬ (y ≤ x) → zk_run E (zk_VT E) M_X8_isLess (C_X8_isLess E) P PX K n 15 [l0, l1] r (σ, sz, k, c)))) ∧
  (∀ (n : Nat) (l0 l1 : Option Value)  (r : List Value) (σ : zk_S) (sz k c : Nat), zk_run E (zk_VT E) M_X8_isLess (C_X8_isLess E) P PX K (n + 1) 15 [l0, l1] r (σ, sz, k, c) = zk_run E (zk_VT E) M_X8_isLess (C_X8_isLess E) P PX K n 16 [l0, l1] (.int (1) :: r) (σ, sz, k, c)) ∧
  (∀ (n : Nat) (l0 l1 : Option Value)  (r : List Value) (σ : zk_S) (sz k c : Nat), zk_run E (zk_VT E) M_X8_isLess (C_X8_isLess E) P PX K (n + 1) 16 [l0, l1] r (σ, sz, k, c) = zk_run E (zk_VT E) M_X8_isLess (C_X8_isLess E) P PX K n 20 [l0, l1] r (σ, sz, k, c)) ∧
  (∀ (n : Nat) (l0 l1 : Option Value)  (r : List Value) (σ : zk_S) (sz k c : Nat), zk_run E (zk_VT E) M_X8_isLess (C_X8_isLess E) P PX K (n + 1) 19 [l0, l1] r (σ, sz, k, c) = zk_run E (zk_VT E) M_X8_isLess (C_X8_isLess E) P PX K n 20 [l0, l1] (.int (0) :: r) (σ, sz, k, c)) ∧
  (∀ (n : Nat) (l0 l1 : Option Value) (x : Int32)  (σ : zk_S) (sz k c : Nat), zk_run E (zk_VT E) M_X8_isLess (C_X8_isLess E) P PX K (n + 1) 20 [l0, l1] [.int x] (σ, sz, k, c) = (zk_nok (some (.boolean)) x ∧ P (some (.int x)) σ sz ∧ k ≤ 0 ∧ c ≤ 0)) ∧
  (∀ (n : Nat) (l0 l1 : Option Value) (r : List Value) (w : zk_W zk_S), zk_go E (zk_VT E) M_X8_isLess (C_X8_isLess E) P PX K n 0 [l0, l1] r w = zk_run E (zk_VT E) M_X8_isLess (C_X8_isLess E) P PX K (n + 1) 0 [l0, l1] r w) := ⟨by intros; rfl, by intros; rfl, by intros; rfl, by intros; rfl, by intros; rfl, by intros; rfl, by intros; rfl, by intros; rfl, by intros; rfl, by intros; rfl, by intros; rfl, by intros; rfl, by intros; rfl, by intros; rfl⟩
theorem vc_X8_isLess (E : zk_E) : zk_VC E (zk_VT E) M_X8_isLess (C_X8_isLess E) 2 (sp_X8_isLess E) := by
  intro av σ sz P PX h
  obtain ⟨J, N, Q, O, U⟩ := σ
  unfold sp_X8_isLess at h
  split at h
  case h_2 => exact h.elim
  rename_i x y
  refine ⟨Nat.le_of_ble_eq_true rfl, fun G hG => ?_⟩
  change G 0 [some (.int x), some (.int y)] [] ((J, N, Q, O, U), sz, 0, 0)
  try dsimp only at h
  unfold w_less at h
  rcases (Decidable.em (x = -1)).imp eq_true eq_false with q1 | q1
  · simp only [q1, not_true_eq_false, decide_false, Bool.false_and] at h
    (refine hG 900 _ _ _ _ ?_; simp only [r_X8_isLess, zk_kl_none, zk_kl_int, zk_kl_ref, zk_kl_null, zk_kl_long, zk_kl_rf, zk_isr_ref, zk_isr_null, zk_isr_rf9, zk_c1_int, zk_c1_ref, zk_c1_null, zk_c1_rf, zk_psh_some, zk_psh_none, zk_nok_int, zk_nok_bool0, zk_nok_bool1, zk_nok_b, zk_fok_0, zk_fok_1, zk_fok_2, zk_fok_n, zk_fok_rf, zb_f, zb_p, zb_i, zb_a, zb_s, zk_nth_0, zk_nth_s, zk_fld_o, zk_put_o, zk_rv_eq, zk_ri_eq, zk_is_o, List.mem_cons, List.not_mem_nil, or_false, false_or, or_true, true_or, and_true, true_and, not_false_iff, not_true_eq_false, true_implies, false_implies, imp_self, implies_true, forall_const, zk_lit, zk_uj_ap, zk_un_ap, zk_un_un, zk_uj_uj, Nat.reduceEqDiff, eq_self, zk_bq, Bool.true_or, Bool.false_or, Nat.le_refl, Nat.zero_add, Nat.add_zero, Nat.reduceAdd, Nat.reduceLeDiff, Nat.le_zero_eq, and_self, and_false, false_and, ite_true, ite_false, Nat.zero_le, List.length_cons, List.length_nil, Option.some.injEq, forall_eq', reduceCtorEq, q1])
    exact h
  · rcases (Decidable.em (y = -1)).imp eq_true eq_false with q2 | q2
    · simp only [q1, q2, not_false_iff, decide_true, Bool.true_or, Bool.true_and] at h
      (refine hG 900 _ _ _ _ ?_; simp only [r_X8_isLess, zk_kl_none, zk_kl_int, zk_kl_ref, zk_kl_null, zk_kl_long, zk_kl_rf, zk_isr_ref, zk_isr_null, zk_isr_rf9, zk_c1_int, zk_c1_ref, zk_c1_null, zk_c1_rf, zk_psh_some, zk_psh_none, zk_nok_int, zk_nok_bool0, zk_nok_bool1, zk_nok_b, zk_fok_0, zk_fok_1, zk_fok_2, zk_fok_n, zk_fok_rf, zb_f, zb_p, zb_i, zb_a, zb_s, zk_nth_0, zk_nth_s, zk_fld_o, zk_put_o, zk_rv_eq, zk_ri_eq, zk_is_o, List.mem_cons, List.not_mem_nil, or_false, false_or, or_true, true_or, and_true, true_and, not_false_iff, not_true_eq_false, true_implies, false_implies, imp_self, implies_true, forall_const, zk_lit, zk_uj_ap, zk_un_ap, zk_un_un, zk_uj_uj, Nat.reduceEqDiff, eq_self, zk_bq, Bool.true_or, Bool.false_or, Nat.le_refl, Nat.zero_add, Nat.add_zero, Nat.reduceAdd, Nat.reduceLeDiff, Nat.le_zero_eq, and_self, and_false, false_and, ite_true, ite_false, Nat.zero_le, List.length_cons, List.length_nil, Option.some.injEq, forall_eq', reduceCtorEq, q1, q2])
      exact h
    · by_cases q3 : x < y
      · have d3 : (y ≤ x) = False := eq_false (Int32.not_le.mpr q3)
        simp only [q1, q2, q3, not_false_iff, decide_true, decide_false, Bool.false_or, Bool.true_and] at h
        (refine hG 900 _ _ _ _ ?_; simp only [r_X8_isLess, zk_kl_none, zk_kl_int, zk_kl_ref, zk_kl_null, zk_kl_long, zk_kl_rf, zk_isr_ref, zk_isr_null, zk_isr_rf9, zk_c1_int, zk_c1_ref, zk_c1_null, zk_c1_rf, zk_psh_some, zk_psh_none, zk_nok_int, zk_nok_bool0, zk_nok_bool1, zk_nok_b, zk_fok_0, zk_fok_1, zk_fok_2, zk_fok_n, zk_fok_rf, zb_f, zb_p, zb_i, zb_a, zb_s, zk_nth_0, zk_nth_s, zk_fld_o, zk_put_o, zk_rv_eq, zk_ri_eq, zk_is_o, List.mem_cons, List.not_mem_nil, or_false, false_or, or_true, true_or, and_true, true_and, not_false_iff, not_true_eq_false, true_implies, false_implies, imp_self, implies_true, forall_const, zk_lit, zk_uj_ap, zk_un_ap, zk_un_un, zk_uj_uj, Nat.reduceEqDiff, eq_self, zk_bq, Bool.true_or, Bool.false_or, Nat.le_refl, Nat.zero_add, Nat.add_zero, Nat.reduceAdd, Nat.reduceLeDiff, Nat.le_zero_eq, and_self, and_false, false_and, ite_true, ite_false, Nat.zero_le, List.length_cons, List.length_nil, Option.some.injEq, forall_eq', reduceCtorEq, q1, q2, d3])
        exact h
      · have d3 : (y ≤ x) = True := eq_true (Int32.not_lt.mp q3)
        simp only [q1, q2, q3, not_false_iff, decide_true, decide_false, Bool.false_or, Bool.and_false] at h
        (refine hG 900 _ _ _ _ ?_; simp only [r_X8_isLess, zk_kl_none, zk_kl_int, zk_kl_ref, zk_kl_null, zk_kl_long, zk_kl_rf, zk_isr_ref, zk_isr_null, zk_isr_rf9, zk_c1_int, zk_c1_ref, zk_c1_null, zk_c1_rf, zk_psh_some, zk_psh_none, zk_nok_int, zk_nok_bool0, zk_nok_bool1, zk_nok_b, zk_fok_0, zk_fok_1, zk_fok_2, zk_fok_n, zk_fok_rf, zb_f, zb_p, zb_i, zb_a, zb_s, zk_nth_0, zk_nth_s, zk_fld_o, zk_put_o, zk_rv_eq, zk_ri_eq, zk_is_o, List.mem_cons, List.not_mem_nil, or_false, false_or, or_true, true_or, and_true, true_and, not_false_iff, not_true_eq_false, true_implies, false_implies, imp_self, implies_true, forall_const, zk_lit, zk_uj_ap, zk_un_ap, zk_un_un, zk_uj_uj, Nat.reduceEqDiff, eq_self, zk_bq, Bool.true_or, Bool.false_or, Nat.le_refl, Nat.zero_add, Nat.add_zero, Nat.reduceAdd, Nat.reduceLeDiff, Nat.le_zero_eq, and_self, and_false, false_and, ite_true, ite_false, Nat.zero_le, List.length_cons, List.length_nil, Option.some.injEq, forall_eq', reduceCtorEq, q1, q2, d3])
        exact h
theorem ct_X8_isLess {l : Launch} (hl : l.stackTraces = false) (E : zk_E) : zk_C l E (zk_VT E) yX8_isLess cX8_isLess 2 (some (.boolean)) rm_X8_isLess (sp_X8_isLess E) := by
  refine zk_meth (M := M_X8_isLess) (C := C_X8_isLess E) hl (by decide +kernel) rfl (fun _ _ => rfl) (zk_VT_ok E) MO_X8_isLess TO_X8_isLess THo_X8_isLess ?_ (vc_X8_isLess E)
  exact fun p e s m args below meth c X pc n mc ms sp2 h => absurd (zk_lka_mem h) List.not_mem_nil


