/-! the class: wayFrom, wayOn, shorten -/
def x_wf (N : Nat → Nat → Int32) (o : Option va_E) (i b : Nat) : Int32 := if fR o 0 = some b then N 8 i else if fR o 1 = some b then N 9 i else -1
def sp_X8_wayFrom (E : zk_E) : zk_Sp zk_S := fun av σ sz P PX => match av with
  | [.ref a, .int i, .ref x, .ref b] => a = zk_ad E 7 ∧ vp_in i 50 ∧ E.1 + 28 ≤ x ∧ isX (σ.2.2.2.1 x) ∧ P (some (.int (x_wf σ.2.1 (σ.2.2.2.1 x) i.toNatClampNeg b))) σ sz
  | _ => False
theorem spe_X8_wayFrom (E : zk_E) (a : Nat) (i : Int32) (x : Nat) (b : Nat) (σ : zk_S) (sz : Nat) (P : zk_P zk_S) (PX : zk_X zk_S) : sp_X8_wayFrom E [.ref a, .int i, .ref x, .ref b] σ sz P PX = (a = zk_ad E 7 ∧ vp_in i 50 ∧ E.1 + 28 ≤ x ∧ isX (σ.2.2.2.1 x) ∧ P (some (.int (x_wf σ.2.1 (σ.2.2.2.1 x) i.toNatClampNeg b))) σ sz) := propext Iff.rfl
def C_X8_wayFrom (E : zk_E) : zk_Cl zk_S := zk_lka []
theorem r_X8_wayFrom (E : zk_E) (P : zk_P zk_S) (PX : zk_X zk_S) (K : Nat → zk_L → List Value → zk_W zk_S → Prop) : (∀ (n : Nat) (l0 l1 l3 : Option Value) (y2 : Value) (r : List Value) (σ : zk_S) (sz k c : Nat), zk_run E (zk_VT E) M_X8_wayFrom (C_X8_wayFrom E) P PX K (n + 1) 0 [l0, l1, some y2, l3] r (σ, sz, k, c) = (zk_isr y2 ∧ zk_run E (zk_VT E) M_X8_wayFrom (C_X8_wayFrom E) P PX K n 1 [l0, l1, some y2, l3] (y2 :: r) (σ, sz, k, c))) ∧
  (∀ (n : Nat) (l0 l1 l2 l3 : Option Value) (a : Nat) (r : List Value) (σ : zk_S) (sz k c : Nat), zk_run E (zk_VT E) M_X8_wayFrom (C_X8_wayFrom E) P PX K (n + 1) 1 [l0, l1, l2, l3] (.ref a :: r) (σ, sz, k, c) = zk_fld (zk_view E σ a) [1, 6] 0 (fun v => zk_run E (zk_VT E) M_X8_wayFrom (C_X8_wayFrom E) P PX K n 4 [l0, l1, l2, l3] (v :: r) (σ, sz, k, c))) ∧
  (∀ (n : Nat) (l0 l1 l2 : Option Value) (y3 : Value) (r : List Value) (σ : zk_S) (sz k c : Nat), zk_run E (zk_VT E) M_X8_wayFrom (C_X8_wayFrom E) P PX K (n + 1) 4 [l0, l1, l2, some y3] r (σ, sz, k, c) = (zk_isr y3 ∧ zk_run E (zk_VT E) M_X8_wayFrom (C_X8_wayFrom E) P PX K n 5 [l0, l1, l2, some y3] (y3 :: r) (σ, sz, k, c))) ∧
  (∀ (n : Nat) (l0 l1 l2 l3 : Option Value) (x y : Value) (r : List Value) (σ : zk_S) (sz k c : Nat), zk_run E (zk_VT E) M_X8_wayFrom (C_X8_wayFrom E) P PX K (n + 1) 5 [l0, l1, l2, l3] (y :: x :: r) (σ, sz, k, c) = (zk_isr x ∧ zk_isr y ∧ (¬ x = y → zk_run E (zk_VT E) M_X8_wayFrom (C_X8_wayFrom E) P PX K n 15 [l0, l1, l2, l3] r (σ, sz, k, c)) ∧ (¬ (¬ x = y) → zk_run E (zk_VT E) M_X8_wayFrom (C_X8_wayFrom E) P PX K n 8 [l0, l1, l2, l3] r (σ, sz, k, c)))) ∧
  (∀ (n : Nat) (l1 l2 l3 : Option Value) (y0 : Value) (r : List Value) (σ : zk_S) (sz k c : Nat), zk_run E (zk_VT E) M_X8_wayFrom (C_X8_wayFrom E) P PX K (n + 1) 8 [some y0, l1, l2, l3] r (σ, sz, k, c) = (zk_isr y0 ∧ zk_run E (zk_VT E) M_X8_wayFrom (C_X8_wayFrom E) P PX K n 9 [some y0, l1, l2, l3] (y0 :: r) (σ, sz, k, c))) ∧
  (∀ (n : Nat) (l0 l1 l2 l3 : Option Value) (a : Nat) (r : List Value) (σ : zk_S) (sz k c : Nat), zk_run E (zk_VT E) M_X8_wayFrom (C_X8_wayFrom E) P PX K (n + 1) 9 [l0, l1, l2, l3] (.ref a :: r) (σ, sz, k, c) = zk_fld (zk_view E σ a) [7] 0 (fun v => zk_run E (zk_VT E) M_X8_wayFrom (C_X8_wayFrom E) P PX K n 12 [l0, l1, l2, l3] (v :: r) (σ, sz, k, c))) ∧
  (∀ (n : Nat) (l0 l2 l3 : Option Value) (y1 : Int32) (r : List Value) (σ : zk_S) (sz k c : Nat), zk_run E (zk_VT E) M_X8_wayFrom (C_X8_wayFrom E) P PX K (n + 1) 12 [l0, some (.int y1), l2, l3] r (σ, sz, k, c) = zk_run E (zk_VT E) M_X8_wayFrom (C_X8_wayFrom E) P PX K n 13 [l0, some (.int y1), l2, l3] (.int y1 :: r) (σ, sz, k, c)) ∧
  (∀ (n : Nat) (l0 l1 l2 l3 : Option Value) (a : Nat) (i : Int32) (r : List Value) (σ : zk_S) (sz k c : Nat), zk_run E (zk_VT E) M_X8_wayFrom (C_X8_wayFrom E) P PX K (n + 1) 13 [l0, l1, l2, l3] (.int i :: .ref a :: r) (σ, sz, k, c) = zk_ild (zk_view E σ a) (zk_ar E 0) i (fun x => zk_run E (zk_VT E) M_X8_wayFrom (C_X8_wayFrom E) P PX K n 14 [l0, l1, l2, l3] (.int x :: r) (σ, sz, k, c))) ∧
  (∀ (n : Nat) (l0 l1 l2 l3 : Option Value) (x : Int32)  (σ : zk_S) (sz k c : Nat), zk_run E (zk_VT E) M_X8_wayFrom (C_X8_wayFrom E) P PX K (n + 1) 14 [l0, l1, l2, l3] [.int x] (σ, sz, k, c) = (zk_nok (some (.int)) x ∧ P (some (.int x)) σ sz ∧ k ≤ 0 ∧ c ≤ 0)) ∧
  (∀ (n : Nat) (l0 l1 l3 : Option Value) (y2 : Value) (r : List Value) (σ : zk_S) (sz k c : Nat), zk_run E (zk_VT E) M_X8_wayFrom (C_X8_wayFrom E) P PX K (n + 1) 15 [l0, l1, some y2, l3] r (σ, sz, k, c) = (zk_isr y2 ∧ zk_run E (zk_VT E) M_X8_wayFrom (C_X8_wayFrom E) P PX K n 16 [l0, l1, some y2, l3] (y2 :: r) (σ, sz, k, c))) ∧
  (∀ (n : Nat) (l0 l1 l2 l3 : Option Value) (a : Nat) (r : List Value) (σ : zk_S) (sz k c : Nat), zk_run E (zk_VT E) M_X8_wayFrom (C_X8_wayFrom E) P PX K (n + 1) 16 [l0, l1, l2, l3] (.ref a :: r) (σ, sz, k, c) = zk_fld (zk_view E σ a) [1, 6] 1 (fun v => zk_run E (zk_VT E) M_X8_wayFrom (C_X8_wayFrom E) P PX K n 19 [l0, l1, l2, l3] (v :: r) (σ, sz, k, c))) ∧
  (∀ (n : Nat) (l0 l1 l2 : Option Value) (y3 : Value) (r : List Value) (σ : zk_S) (sz k c : Nat), zk_run E (zk_VT E) M_X8_wayFrom (C_X8_wayFrom E) P PX K (n + 1) 19 [l0, l1, l2, some y3] r (σ, sz, k, c) = (zk_isr y3 ∧ zk_run E (zk_VT E) M_X8_wayFrom (C_X8_wayFrom E) P PX K n 20 [l0, l1, l2, some y3] (y3 :: r) (σ, sz, k, c))) ∧
  (∀ (n : Nat) (l0 l1 l2 l3 : Option Value) (x y : Value) (r : List Value) (σ : zk_S) (sz k c : Nat), zk_run E (zk_VT E) M_X8_wayFrom (C_X8_wayFrom E) P PX K (n + 1) 20 [l0, l1, l2, l3] (y :: x :: r) (σ, sz, k, c) = (zk_isr x ∧ zk_isr y ∧ (¬ x = y → zk_run E (zk_VT E) M_X8_wayFrom (C_X8_wayFrom E) P PX K n 32 [l0, l1, l2, l3] r (σ, sz, k, c)) ∧ (¬ (¬ x = y) → zk_run E (zk_VT E) M_X8_wayFrom (C_X8_wayFrom E) P PX K n 23 [l0, l1, l2, l3] r (σ, sz, k, c)))) ∧
  (∀ (n : Nat) (l1 l2 l3 : Option Value) (y0 : Value) (r : List Value) (σ : zk_S) (sz k c : Nat), zk_run E (zk_VT E) M_X8_wayFrom (C_X8_wayFrom E) P PX K (n + 1) 23 [some y0, l1, l2, l3] r (σ, sz, k, c) = (zk_isr y0 ∧ zk_run E (zk_VT E) M_X8_wayFrom (C_X8_wayFrom E) P PX K n 24 [some y0, l1, l2, l3] (y0 :: r) (σ, sz, k, c))) ∧
  (∀ (n : Nat) (l0 l1 l2 l3 : Option Value) (a : Nat) (r : List Value) (σ : zk_S) (sz k c : Nat), zk_run E (zk_VT E) M_X8_wayFrom (C_X8_wayFrom E) P PX K (n + 1) 24 [l0, l1, l2, l3] (.ref a :: r) (σ, sz, k, c) = zk_fld (zk_view E σ a) [7] 1 (fun v => zk_run E (zk_VT E) M_X8_wayFrom (C_X8_wayFrom E) P PX K n 27 [l0, l1, l2, l3] (v :: r) (σ, sz, k, c))) ∧
  (∀ (n : Nat) (l0 l2 l3 : Option Value) (y1 : Int32) (r : List Value) (σ : zk_S) (sz k c : Nat), zk_run E (zk_VT E) M_X8_wayFrom (C_X8_wayFrom E) P PX K (n + 1) 27 [l0, some (.int y1), l2, l3] r (σ, sz, k, c) = zk_run E (zk_VT E) M_X8_wayFrom (C_X8_wayFrom E) P PX K n 28 [l0, some (.int y1), l2, l3] (.int y1 :: r) (σ, sz, k, c)) ∧
  (∀ (n : Nat) (l0 l1 l2 l3 : Option Value) (a : Nat) (i : Int32) (r : List Value) (σ : zk_S) (sz k c : Nat), zk_run E (zk_VT E) M_X8_wayFrom (C_X8_wayFrom E) P PX K (n + 1) 28 [l0, l1, l2, l3] (.int i :: .ref a :: r) (σ, sz, k, c) = zk_ild (zk_view E σ a) (zk_ar E 0) i (fun x => zk_run E (zk_VT E) M_X8_wayFrom (C_X8_wayFrom E) P PX K n 29 [l0, l1, l2, l3] (.int x :: r) (σ, sz, k, c))) ∧
  (∀ (n : Nat) (l0 l1 l2 l3 : Option Value)  (r : List Value) (σ : zk_S) (sz k c : Nat), zk_run E (zk_VT E) M_X8_wayFrom (C_X8_wayFrom E) P PX K (n + 1) 29 [l0, l1, l2, l3] r (σ, sz, k, c) = zk_run E (zk_VT E) M_X8_wayFrom (C_X8_wayFrom E) P PX K n 33 [l0, l1, l2, l3] r (σ, sz, k, c)) ∧
  (∀ (n : Nat) (l0 l1 l2 l3 : Option Value)  (r : List Value) (σ : zk_S) (sz k c : Nat), zk_run E (zk_VT E) M_X8_wayFrom (C_X8_wayFrom E) P PX K (n + 1) 32 [l0, l1, l2, l3] r (σ, sz, k, c) = zk_run E (zk_VT E) M_X8_wayFrom (C_X8_wayFrom E) P PX K n 33 [l0, l1, l2, l3] (.int ((-1)) :: r) (σ, sz, k, c)) ∧
  (∀ (n : Nat) (l0 l1 l2 l3 : Option Value) (x : Int32)  (σ : zk_S) (sz k c : Nat), zk_run E (zk_VT E) M_X8_wayFrom (C_X8_wayFrom E) P PX K (n + 1) 33 [l0, l1, l2, l3] [.int x] (σ, sz, k, c) = (zk_nok (some (.int)) x ∧ P (some (.int x)) σ sz ∧ k ≤ 0 ∧ c ≤ 0)) ∧
  (∀ (n : Nat) (l0 l1 l2 l3 : Option Value) (r : List Value) (w : zk_W zk_S), zk_go E (zk_VT E) M_X8_wayFrom (C_X8_wayFrom E) P PX K n 0 [l0, l1, l2, l3] r w = zk_run E (zk_VT E) M_X8_wayFrom (C_X8_wayFrom E) P PX K (n + 1) 0 [l0, l1, l2, l3] r w) := ⟨by intros; rfl, by intros; rfl, by intros; rfl, by intros; rfl, by intros; rfl, by intros; rfl, by intros; rfl, by intros; rfl, by intros; rfl, by intros; rfl, by intros; rfl, by intros; rfl, by intros; rfl, by intros; rfl, by intros; rfl, by intros; rfl, by intros; rfl, by intros; rfl, by intros; rfl, by intros; rfl, by intros; rfl⟩
theorem vc_X8_wayFrom (E : zk_E) : zk_VC E (zk_VT E) M_X8_wayFrom (C_X8_wayFrom E) 4 (sp_X8_wayFrom E) := by
  intro av σ sz P PX h
  obtain ⟨J, N, Q, O, U⟩ := σ
  unfold sp_X8_wayFrom at h
  split at h
  case h_2 => exact h.elim
  rename_i a0 i x b
  obtain ⟨rfl, h⟩ := h
  refine ⟨Nat.le_of_ble_eq_true rfl, fun G hG => ?_⟩
  change G 0 [some (.ref (zk_ad E 7)), some (.int i), some (.ref x), some (.ref b)] [] ((J, N, Q, O, U), sz, 0, 0)
  try dsimp only at h
  obtain ⟨hin, hx, ⟨ci, f, t, mx, my, ln, fw, sh, rest, hci, hO⟩, h⟩ := h
  rw [hO] at h
  unfold x_wf at h
  simp only [fR_X] at h
  unfold cX at hO
  by_cases q1 : f = some b
  · rw [if_pos q1] at h
    have q1 := eq_true q1
    rcases hci with rfl | rfl
    · (refine hG 900 _ _ _ _ ?_; simp only [r_X8_wayFrom, zk_kl_none, zk_kl_int, zk_kl_ref, zk_kl_null, zk_kl_long, zk_kl_rf, zk_isr_ref, zk_isr_null, zk_isr_rf9, zk_c1_int, zk_c1_ref, zk_c1_null, zk_c1_rf, zk_psh_some, zk_psh_none, zk_nok_int, zk_nok_bool0, zk_nok_bool1, zk_nok_b, zk_fok_0, zk_fok_1, zk_fok_2, zk_fok_n, zk_fok_rf, zb_f, zb_p, zb_i, zb_a, zb_s, zk_nth_0, zk_nth_s, zk_fld_o, zk_put_o, zk_rv_eq, zk_ri_eq, zk_is_o, List.mem_cons, List.not_mem_nil, or_false, false_or, or_true, true_or, and_true, true_and, not_false_iff, not_true_eq_false, true_implies, false_implies, imp_self, implies_true, forall_const, zk_lit, zk_uj_ap, zk_un_ap, zk_un_un, zk_uj_uj, Nat.reduceEqDiff, eq_self, zk_bq, Bool.true_or, Bool.false_or, Nat.le_refl, Nat.zero_add, Nat.add_zero, Nat.reduceAdd, Nat.reduceLeDiff, Nat.le_zero_eq, and_self, and_false, false_and, ite_true, ite_false, Nat.zero_le, List.length_cons, List.length_nil, Option.some.injEq, forall_eq', reduceCtorEq, zk_vd hx, hO, va_rf_eq, q1, hin])
      exact h
    · (refine hG 900 _ _ _ _ ?_; simp only [r_X8_wayFrom, zk_kl_none, zk_kl_int, zk_kl_ref, zk_kl_null, zk_kl_long, zk_kl_rf, zk_isr_ref, zk_isr_null, zk_isr_rf9, zk_c1_int, zk_c1_ref, zk_c1_null, zk_c1_rf, zk_psh_some, zk_psh_none, zk_nok_int, zk_nok_bool0, zk_nok_bool1, zk_nok_b, zk_fok_0, zk_fok_1, zk_fok_2, zk_fok_n, zk_fok_rf, zb_f, zb_p, zb_i, zb_a, zb_s, zk_nth_0, zk_nth_s, zk_fld_o, zk_put_o, zk_rv_eq, zk_ri_eq, zk_is_o, List.mem_cons, List.not_mem_nil, or_false, false_or, or_true, true_or, and_true, true_and, not_false_iff, not_true_eq_false, true_implies, false_implies, imp_self, implies_true, forall_const, zk_lit, zk_uj_ap, zk_un_ap, zk_un_un, zk_uj_uj, Nat.reduceEqDiff, eq_self, zk_bq, Bool.true_or, Bool.false_or, Nat.le_refl, Nat.zero_add, Nat.add_zero, Nat.reduceAdd, Nat.reduceLeDiff, Nat.le_zero_eq, and_self, and_false, false_and, ite_true, ite_false, Nat.zero_le, List.length_cons, List.length_nil, Option.some.injEq, forall_eq', reduceCtorEq, zk_vd hx, hO, va_rf_eq, q1, hin])
      exact h
  · rw [if_neg q1] at h
    have q1 := eq_false q1
    by_cases q2 : t = some b
    · rw [if_pos q2] at h
      have q2 := eq_true q2
      rcases hci with rfl | rfl
      · (refine hG 900 _ _ _ _ ?_; simp only [r_X8_wayFrom, zk_kl_none, zk_kl_int, zk_kl_ref, zk_kl_null, zk_kl_long, zk_kl_rf, zk_isr_ref, zk_isr_null, zk_isr_rf9, zk_c1_int, zk_c1_ref, zk_c1_null, zk_c1_rf, zk_psh_some, zk_psh_none, zk_nok_int, zk_nok_bool0, zk_nok_bool1, zk_nok_b, zk_fok_0, zk_fok_1, zk_fok_2, zk_fok_n, zk_fok_rf, zb_f, zb_p, zb_i, zb_a, zb_s, zk_nth_0, zk_nth_s, zk_fld_o, zk_put_o, zk_rv_eq, zk_ri_eq, zk_is_o, List.mem_cons, List.not_mem_nil, or_false, false_or, or_true, true_or, and_true, true_and, not_false_iff, not_true_eq_false, true_implies, false_implies, imp_self, implies_true, forall_const, zk_lit, zk_uj_ap, zk_un_ap, zk_un_un, zk_uj_uj, Nat.reduceEqDiff, eq_self, zk_bq, Bool.true_or, Bool.false_or, Nat.le_refl, Nat.zero_add, Nat.add_zero, Nat.reduceAdd, Nat.reduceLeDiff, Nat.le_zero_eq, and_self, and_false, false_and, ite_true, ite_false, Nat.zero_le, List.length_cons, List.length_nil, Option.some.injEq, forall_eq', reduceCtorEq, zk_vd hx, hO, va_rf_eq, q1, q2, hin])
        exact h
      · (refine hG 900 _ _ _ _ ?_; simp only [r_X8_wayFrom, zk_kl_none, zk_kl_int, zk_kl_ref, zk_kl_null, zk_kl_long, zk_kl_rf, zk_isr_ref, zk_isr_null, zk_isr_rf9, zk_c1_int, zk_c1_ref, zk_c1_null, zk_c1_rf, zk_psh_some, zk_psh_none, zk_nok_int, zk_nok_bool0, zk_nok_bool1, zk_nok_b, zk_fok_0, zk_fok_1, zk_fok_2, zk_fok_n, zk_fok_rf, zb_f, zb_p, zb_i, zb_a, zb_s, zk_nth_0, zk_nth_s, zk_fld_o, zk_put_o, zk_rv_eq, zk_ri_eq, zk_is_o, List.mem_cons, List.not_mem_nil, or_false, false_or, or_true, true_or, and_true, true_and, not_false_iff, not_true_eq_false, true_implies, false_implies, imp_self, implies_true, forall_const, zk_lit, zk_uj_ap, zk_un_ap, zk_un_un, zk_uj_uj, Nat.reduceEqDiff, eq_self, zk_bq, Bool.true_or, Bool.false_or, Nat.le_refl, Nat.zero_add, Nat.add_zero, Nat.reduceAdd, Nat.reduceLeDiff, Nat.le_zero_eq, and_self, and_false, false_and, ite_true, ite_false, Nat.zero_le, List.length_cons, List.length_nil, Option.some.injEq, forall_eq', reduceCtorEq, zk_vd hx, hO, va_rf_eq, q1, q2, hin])
        exact h
    · rw [if_neg q2] at h
      have q2 := eq_false q2
      rcases hci with rfl | rfl
      · (refine hG 900 _ _ _ _ ?_; simp only [r_X8_wayFrom, zk_kl_none, zk_kl_int, zk_kl_ref, zk_kl_null, zk_kl_long, zk_kl_rf, zk_isr_ref, zk_isr_null, zk_isr_rf9, zk_c1_int, zk_c1_ref, zk_c1_null, zk_c1_rf, zk_psh_some, zk_psh_none, zk_nok_int, zk_nok_bool0, zk_nok_bool1, zk_nok_b, zk_fok_0, zk_fok_1, zk_fok_2, zk_fok_n, zk_fok_rf, zb_f, zb_p, zb_i, zb_a, zb_s, zk_nth_0, zk_nth_s, zk_fld_o, zk_put_o, zk_rv_eq, zk_ri_eq, zk_is_o, List.mem_cons, List.not_mem_nil, or_false, false_or, or_true, true_or, and_true, true_and, not_false_iff, not_true_eq_false, true_implies, false_implies, imp_self, implies_true, forall_const, zk_lit, zk_uj_ap, zk_un_ap, zk_un_un, zk_uj_uj, Nat.reduceEqDiff, eq_self, zk_bq, Bool.true_or, Bool.false_or, Nat.le_refl, Nat.zero_add, Nat.add_zero, Nat.reduceAdd, Nat.reduceLeDiff, Nat.le_zero_eq, and_self, and_false, false_and, ite_true, ite_false, Nat.zero_le, List.length_cons, List.length_nil, Option.some.injEq, forall_eq', reduceCtorEq, zk_vd hx, hO, va_rf_eq, q1, q2, hin])
        exact h
      · (refine hG 900 _ _ _ _ ?_; simp only [r_X8_wayFrom, zk_kl_none, zk_kl_int, zk_kl_ref, zk_kl_null, zk_kl_long, zk_kl_rf, zk_isr_ref, zk_isr_null, zk_isr_rf9, zk_c1_int, zk_c1_ref, zk_c1_null, zk_c1_rf, zk_psh_some, zk_psh_none, zk_nok_int, zk_nok_bool0, zk_nok_bool1, zk_nok_b, zk_fok_0, zk_fok_1, zk_fok_2, zk_fok_n, zk_fok_rf, zb_f, zb_p, zb_i, zb_a, zb_s, zk_nth_0, zk_nth_s, zk_fld_o, zk_put_o, zk_rv_eq, zk_ri_eq, zk_is_o, List.mem_cons, List.not_mem_nil, or_false, false_or, or_true, true_or, and_true, true_and, not_false_iff, not_true_eq_false, true_implies, false_implies, imp_self, implies_true, forall_const, zk_lit, zk_uj_ap, zk_un_ap, zk_un_un, zk_uj_uj, Nat.reduceEqDiff, eq_self, zk_bq, Bool.true_or, Bool.false_or, Nat.le_refl, Nat.zero_add, Nat.add_zero, Nat.reduceAdd, Nat.reduceLeDiff, Nat.le_zero_eq, and_self, and_false, false_and, ite_true, ite_false, Nat.zero_le, List.length_cons, List.length_nil, Option.some.injEq, forall_eq', reduceCtorEq, zk_vd hx, hO, va_rf_eq, q1, q2, hin])
        exact h
theorem ct_X8_wayFrom {l : Launch} (hl : l.stackTraces = false) (E : zk_E) : zk_C l E (zk_VT E) yX8_wayFrom cX8_wayFrom 4 (some (.int)) rm_X8_wayFrom (sp_X8_wayFrom E) := by
  refine zk_meth (M := M_X8_wayFrom) (C := C_X8_wayFrom E) hl (by decide +kernel) rfl (fun _ _ => rfl) (zk_VT_ok E) MO_X8_wayFrom TO_X8_wayFrom THo_X8_wayFrom ?_ (vc_X8_wayFrom E)
  exact fun p e s m args below meth c X pc n mc ms sp2 h => absurd (zk_lka_mem h) List.not_mem_nil
def sp_X8_wayOn (E : zk_E) : zk_Sp zk_S := fun av σ sz P PX => match av with
  | [.ref a, .ref p, .int ix, .ref x, .ref b] => a = zk_ad E 7 ∧ p = zk_ad E 1 ∧ ∃ J N fl v B i j, MI J N ∧ XR E sz σ J N fl ∧ WV J N σ.2.1 v B ∧ B ≤ 9000000 ∧ i < 50 ∧ ix = nI i ∧ xat σ.2.2.1 i = some x ∧ eo N i ∧ MR J N j ∧ σ.2.2.1 2 j = some b ∧ P (some (.int (wl (steep (2 * i)) (g_on J N v j i)))) σ sz
  | _ => False
theorem spe_X8_wayOn (E : zk_E) (a : Nat) (p : Nat) (ix : Int32) (x : Nat) (b : Nat) (σ : zk_S) (sz : Nat) (P : zk_P zk_S) (PX : zk_X zk_S) : sp_X8_wayOn E [.ref a, .ref p, .int ix, .ref x, .ref b] σ sz P PX = (a = zk_ad E 7 ∧ p = zk_ad E 1 ∧ ∃ J N fl v B i j, MI J N ∧ XR E sz σ J N fl ∧ WV J N σ.2.1 v B ∧ B ≤ 9000000 ∧ i < 50 ∧ ix = nI i ∧ xat σ.2.2.1 i = some x ∧ eo N i ∧ MR J N j ∧ σ.2.2.1 2 j = some b ∧ P (some (.int (wl (steep (2 * i)) (g_on J N v j i)))) σ sz) := propext Iff.rfl
def C_X8_wayOn (E : zk_E) : zk_Cl zk_S := zk_lka [(16, 2, 0, 0, zk_rv (zk_VT E) (fun ci => Nat.beq ci 4) (sp_X5_exitAt E)), (42, 4, 0, 0, zk_rv (zk_VT E) (fun ci => Nat.beq ci 7) (sp_X8_wayFrom E)), (67, 3, 0, 0, zk_rv (zk_VT E) (fun ci => Nat.beq ci 1 || Nat.beq ci 6) (sp_X2_distanceTo E)), (80, 2, 0, 0, sp_X8_isLess E)]
theorem r_X8_wayOn (E : zk_E) (P : zk_P zk_S) (PX : zk_X zk_S) (K : Nat → zk_L → List Value → zk_W zk_S → Prop) : (∀ (n : Nat) (l0 l1 l2 l3 l4 l5 l6 l7 l8 l9 : Option Value)  (r : List Value) (σ : zk_S) (sz k c : Nat), zk_run E (zk_VT E) M_X8_wayOn (C_X8_wayOn E) P PX K (n + 1) 0 [l0, l1, l2, l3, l4, l5, l6, l7, l8, l9] r (σ, sz, k, c) = zk_run E (zk_VT E) M_X8_wayOn (C_X8_wayOn E) P PX K n 1 [l0, l1, l2, l3, l4, l5, l6, l7, l8, l9] (.int ((-1)) :: r) (σ, sz, k, c)) ∧
  (∀ (n : Nat) (l0 l1 l2 l3 l4 l5 l6 l7 l8 l9 : Option Value) (x : Int32) (r : List Value) (σ : zk_S) (sz k c : Nat), zk_run E (zk_VT E) M_X8_wayOn (C_X8_wayOn E) P PX K (n + 1) 1 [l0, l1, l2, l3, l4, l5, l6, l7, l8, l9] (.int x :: r) (σ, sz, k, c) = zk_run E (zk_VT E) M_X8_wayOn (C_X8_wayOn E) P PX K n 3 [l0, l1, l2, l3, zk_kl l4, some (.int x), l6, l7, l8, l9] r (σ, sz, k, c)) ∧
  (∀ (n : Nat) (l0 l1 l2 l3 l4 l5 l6 l7 l8 l9 : Option Value)  (r : List Value) (σ : zk_S) (sz k c : Nat), zk_run E (zk_VT E) M_X8_wayOn (C_X8_wayOn E) P PX K (n + 1) 3 [l0, l1, l2, l3, l4, l5, l6, l7, l8, l9] r (σ, sz, k, c) = zk_run E (zk_VT E) M_X8_wayOn (C_X8_wayOn E) P PX K n 4 [l0, l1, l2, l3, l4, l5, l6, l7, l8, l9] (.int (0) :: r) (σ, sz, k, c)) ∧
  (∀ (n : Nat) (l0 l1 l2 l3 l4 l5 l6 l7 l8 l9 : Option Value) (x : Int32) (r : List Value) (σ : zk_S) (sz k c : Nat), zk_run E (zk_VT E) M_X8_wayOn (C_X8_wayOn E) P PX K (n + 1) 4 [l0, l1, l2, l3, l4, l5, l6, l7, l8, l9] (.int x :: r) (σ, sz, k, c) = zk_run E (zk_VT E) M_X8_wayOn (C_X8_wayOn E) P PX K n 6 [l0, l1, l2, l3, l4, zk_kl l5, some (.int x), l7, l8, l9] r (σ, sz, k, c)) ∧
  (∀ (n : Nat) (l0 l1 l2 l3 l4 l5 l6 l7 l8 l9 : Option Value)  (r : List Value) (σ : zk_S) (sz k c : Nat), zk_run E (zk_VT E) M_X8_wayOn (C_X8_wayOn E) P PX K (n + 1) 6 [l0, l1, l2, l3, l4, l5, l6, l7, l8, l9] r (σ, sz, k, c) = K 6 [l0, l1, l2, l3, l4, l5, l6, l7, l8, l9] r (σ, sz, k, c)) ∧
  (∀ (n : Nat) (l0 l1 l2 l3 l4 l5 l6 l7 l8 l9 : Option Value)  (r : List Value) (σ : zk_S) (sz k c : Nat), zk_run E (zk_VT E) M_X8_wayOn (C_X8_wayOn E) P PX K (n + 1) 8 [l0, l1, l2, l3, l4, l5, l6, l7, l8, l9] r (σ, sz, k, c) = zk_run E (zk_VT E) M_X8_wayOn (C_X8_wayOn E) P PX K n 10 [l0, l1, l2, l3, l4, l5, l6, l7, l8, l9] (.int (50) :: r) (σ, sz, k, c)) ∧
  (∀ (n : Nat) (l0 l1 l2 l3 l4 l5 l6 l7 l8 l9 : Option Value) (x y : Int32) (r : List Value) (σ : zk_S) (sz k c : Nat), zk_run E (zk_VT E) M_X8_wayOn (C_X8_wayOn E) P PX K (n + 1) 10 [l0, l1, l2, l3, l4, l5, l6, l7, l8, l9] (.int y :: .int x :: r) (σ, sz, k, c) = ((y ≤ x → zk_run E (zk_VT E) M_X8_wayOn (C_X8_wayOn E) P PX K n 101 [l0, l1, l2, l3, l4, l5, l6, l7, l8, l9] r (σ, sz, k, c)) ∧ (¬ (y ≤ x) → zk_run E (zk_VT E) M_X8_wayOn (C_X8_wayOn E) P PX K n 13 [l0, l1, l2, l3, l4, l5, l6, l7, l8, l9] r (σ, sz, k, c)))) ∧
  (∀ (n : Nat) (l0 l2 l3 l4 l5 l6 l7 l8 l9 : Option Value) (y1 : Value) (r : List Value) (σ : zk_S) (sz k c : Nat), zk_run E (zk_VT E) M_X8_wayOn (C_X8_wayOn E) P PX K (n + 1) 13 [l0, some y1, l2, l3, l4, l5, l6, l7, l8, l9] r (σ, sz, k, c) = (zk_isr y1 ∧ zk_run E (zk_VT E) M_X8_wayOn (C_X8_wayOn E) P PX K n 14 [l0, some y1, l2, l3, l4, l5, l6, l7, l8, l9] (y1 :: r) (σ, sz, k, c))) ∧
  (∀ (n : Nat) (l0 l1 l2 l3 l4 l5 l7 l8 l9 : Option Value) (y6 : Int32) (r : List Value) (σ : zk_S) (sz k c : Nat), zk_run E (zk_VT E) M_X8_wayOn (C_X8_wayOn E) P PX K (n + 1) 14 [l0, l1, l2, l3, l4, l5, some (.int y6), l7, l8, l9] r (σ, sz, k, c) = zk_run E (zk_VT E) M_X8_wayOn (C_X8_wayOn E) P PX K n 16 [l0, l1, l2, l3, l4, l5, some (.int y6), l7, l8, l9] (.int y6 :: r) (σ, sz, k, c)) ∧
  (∀ (n : Nat) (l0 l1 l2 l3 l4 l5 l6 l7 l8 l9 : Option Value) (v0 : Value) (v1 : Value)  (σ : zk_S) (sz k c : Nat), zk_run E (zk_VT E) M_X8_wayOn (C_X8_wayOn E) P PX K (n + 1) 16 [l0, l1, l2, l3, l4, l5, l6, l7, l8, l9] [v0, v1] (σ, sz, k, c) = (k + 0 ≤ 0 ∧ c + 0 ≤ 0 ∧ (zk_rv (zk_VT E) (fun ci => Nat.beq ci 4) (sp_X5_exitAt E)) [v1, v0] σ sz (fun v s2 z2 => zk_run E (zk_VT E) M_X8_wayOn (C_X8_wayOn E) P PX K n 19 [l0, l1, l2, l3, l4, l5, l6, l7, l8, l9] (zk_psh v []) (s2, z2, k + 0, c + 0)) (fun X s2 z2 => PX X s2 z2))) ∧
  (∀ (n : Nat) (l0 l1 l2 l3 l4 l5 l6 l7 l8 l9 : Option Value) (x : Value) (r : List Value) (σ : zk_S) (sz k c : Nat), zk_run E (zk_VT E) M_X8_wayOn (C_X8_wayOn E) P PX K (n + 1) 19 [l0, l1, l2, l3, l4, l5, l6, l7, l8, l9] (x :: r) (σ, sz, k, c) = (zk_isr x ∧ zk_run E (zk_VT E) M_X8_wayOn (C_X8_wayOn E) P PX K n 21 [l0, l1, l2, l3, l4, l5, zk_kl l6, some (x), l8, l9] r (σ, sz, k, c))) ∧
  (∀ (n : Nat) (l0 l1 l2 l3 l4 l5 l6 l8 l9 : Option Value) (y7 : Value) (r : List Value) (σ : zk_S) (sz k c : Nat), zk_run E (zk_VT E) M_X8_wayOn (C_X8_wayOn E) P PX K (n + 1) 21 [l0, l1, l2, l3, l4, l5, l6, some y7, l8, l9] r (σ, sz, k, c) = (zk_isr y7 ∧ zk_run E (zk_VT E) M_X8_wayOn (C_X8_wayOn E) P PX K n 23 [l0, l1, l2, l3, l4, l5, l6, some y7, l8, l9] (y7 :: r) (σ, sz, k, c))) ∧
  (∀ (n : Nat) (l0 l1 l2 l3 l4 l5 l6 l7 l8 l9 : Option Value) (v : Value) (r : List Value) (σ : zk_S) (sz k c : Nat), zk_run E (zk_VT E) M_X8_wayOn (C_X8_wayOn E) P PX K (n + 1) 23 [l0, l1, l2, l3, l4, l5, l6, l7, l8, l9] (v :: r) (σ, sz, k, c) = (zk_isr v ∧ (v = .null → zk_run E (zk_VT E) M_X8_wayOn (C_X8_wayOn E) P PX K n 95 [l0, l1, l2, l3, l4, l5, l6, l7, l8, l9] r (σ, sz, k, c)) ∧ (¬ (v = .null) → zk_run E (zk_VT E) M_X8_wayOn (C_X8_wayOn E) P PX K n 26 [l0, l1, l2, l3, l4, l5, l6, l7, l8, l9] r (σ, sz, k, c)))) ∧
  (∀ (n : Nat) (l0 l1 l2 l3 l4 l5 l7 l8 l9 : Option Value) (y6 : Int32) (r : List Value) (σ : zk_S) (sz k c : Nat), zk_run E (zk_VT E) M_X8_wayOn (C_X8_wayOn E) P PX K (n + 1) 26 [l0, l1, l2, l3, l4, l5, some (.int y6), l7, l8, l9] r (σ, sz, k, c) = zk_run E (zk_VT E) M_X8_wayOn (C_X8_wayOn E) P PX K n 28 [l0, l1, l2, l3, l4, l5, some (.int y6), l7, l8, l9] (.int y6 :: r) (σ, sz, k, c)) ∧
  (∀ (n : Nat) (l0 l1 l3 l4 l5 l6 l7 l8 l9 : Option Value) (y2 : Int32) (r : List Value) (σ : zk_S) (sz k c : Nat), zk_run E (zk_VT E) M_X8_wayOn (C_X8_wayOn E) P PX K (n + 1) 28 [l0, l1, some (.int y2), l3, l4, l5, l6, l7, l8, l9] r (σ, sz, k, c) = zk_run E (zk_VT E) M_X8_wayOn (C_X8_wayOn E) P PX K n 29 [l0, l1, some (.int y2), l3, l4, l5, l6, l7, l8, l9] (.int y2 :: r) (σ, sz, k, c)) ∧
  (∀ (n : Nat) (l0 l1 l2 l3 l4 l5 l6 l7 l8 l9 : Option Value) (x y : Int32) (r : List Value) (σ : zk_S) (sz k c : Nat), zk_run E (zk_VT E) M_X8_wayOn (C_X8_wayOn E) P PX K (n + 1) 29 [l0, l1, l2, l3, l4, l5, l6, l7, l8, l9] (.int y :: .int x :: r) (σ, sz, k, c) = ((¬ x = y → zk_run E (zk_VT E) M_X8_wayOn (C_X8_wayOn E) P PX K n 35 [l0, l1, l2, l3, l4, l5, l6, l7, l8, l9] r (σ, sz, k, c)) ∧ (¬ (¬ x = y) → zk_run E (zk_VT E) M_X8_wayOn (C_X8_wayOn E) P PX K n 32 [l0, l1, l2, l3, l4, l5, l6, l7, l8, l9] r (σ, sz, k, c)))) ∧
  (∀ (n : Nat) (l0 l1 l2 l3 l4 l5 l6 l7 l8 l9 : Option Value)  (r : List Value) (σ : zk_S) (sz k c : Nat), zk_run E (zk_VT E) M_X8_wayOn (C_X8_wayOn E) P PX K (n + 1) 32 [l0, l1, l2, l3, l4, l5, l6, l7, l8, l9] r (σ, sz, k, c) = zk_run E (zk_VT E) M_X8_wayOn (C_X8_wayOn E) P PX K n 95 [l0, l1, l2, l3, l4, l5, l6, l7, l8, l9] r (σ, sz, k, c)) ∧
  (∀ (n : Nat) (l1 l2 l3 l4 l5 l6 l7 l8 l9 : Option Value) (y0 : Value) (r : List Value) (σ : zk_S) (sz k c : Nat), zk_run E (zk_VT E) M_X8_wayOn (C_X8_wayOn E) P PX K (n + 1) 35 [some y0, l1, l2, l3, l4, l5, l6, l7, l8, l9] r (σ, sz, k, c) = (zk_isr y0 ∧ zk_run E (zk_VT E) M_X8_wayOn (C_X8_wayOn E) P PX K n 36 [some y0, l1, l2, l3, l4, l5, l6, l7, l8, l9] (y0 :: r) (σ, sz, k, c))) ∧
  (∀ (n : Nat) (l0 l1 l2 l3 l4 l5 l7 l8 l9 : Option Value) (y6 : Int32) (r : List Value) (σ : zk_S) (sz k c : Nat), zk_run E (zk_VT E) M_X8_wayOn (C_X8_wayOn E) P PX K (n + 1) 36 [l0, l1, l2, l3, l4, l5, some (.int y6), l7, l8, l9] r (σ, sz, k, c) = zk_run E (zk_VT E) M_X8_wayOn (C_X8_wayOn E) P PX K n 38 [l0, l1, l2, l3, l4, l5, some (.int y6), l7, l8, l9] (.int y6 :: r) (σ, sz, k, c)) ∧
  (∀ (n : Nat) (l0 l1 l2 l3 l4 l5 l6 l8 l9 : Option Value) (y7 : Value) (r : List Value) (σ : zk_S) (sz k c : Nat), zk_run E (zk_VT E) M_X8_wayOn (C_X8_wayOn E) P PX K (n + 1) 38 [l0, l1, l2, l3, l4, l5, l6, some y7, l8, l9] r (σ, sz, k, c) = (zk_isr y7 ∧ zk_run E (zk_VT E) M_X8_wayOn (C_X8_wayOn E) P PX K n 40 [l0, l1, l2, l3, l4, l5, l6, some y7, l8, l9] (y7 :: r) (σ, sz, k, c))) ∧
  (∀ (n : Nat) (l0 l1 l2 l3 l5 l6 l7 l8 l9 : Option Value) (y4 : Value) (r : List Value) (σ : zk_S) (sz k c : Nat), zk_run E (zk_VT E) M_X8_wayOn (C_X8_wayOn E) P PX K (n + 1) 40 [l0, l1, l2, l3, some y4, l5, l6, l7, l8, l9] r (σ, sz, k, c) = (zk_isr y4 ∧ zk_run E (zk_VT E) M_X8_wayOn (C_X8_wayOn E) P PX K n 42 [l0, l1, l2, l3, some y4, l5, l6, l7, l8, l9] (y4 :: r) (σ, sz, k, c))) ∧
  (∀ (n : Nat) (l0 l1 l2 l3 l4 l5 l6 l7 l8 l9 : Option Value) (v0 : Value) (v1 : Value) (v2 : Value) (v3 : Value)  (σ : zk_S) (sz k c : Nat), zk_run E (zk_VT E) M_X8_wayOn (C_X8_wayOn E) P PX K (n + 1) 42 [l0, l1, l2, l3, l4, l5, l6, l7, l8, l9] [v0, v1, v2, v3] (σ, sz, k, c) = (k + 0 ≤ 0 ∧ c + 0 ≤ 0 ∧ (zk_rv (zk_VT E) (fun ci => Nat.beq ci 7) (sp_X8_wayFrom E)) [v3, v2, v1, v0] σ sz (fun v s2 z2 => zk_run E (zk_VT E) M_X8_wayOn (C_X8_wayOn E) P PX K n 45 [l0, l1, l2, l3, l4, l5, l6, l7, l8, l9] (zk_psh v []) (s2, z2, k + 0, c + 0)) (fun X s2 z2 => PX X s2 z2))) ∧
  (∀ (n : Nat) (l0 l1 l2 l3 l4 l5 l6 l7 l8 l9 : Option Value) (x : Int32) (r : List Value) (σ : zk_S) (sz k c : Nat), zk_run E (zk_VT E) M_X8_wayOn (C_X8_wayOn E) P PX K (n + 1) 45 [l0, l1, l2, l3, l4, l5, l6, l7, l8, l9] (.int x :: r) (σ, sz, k, c) = zk_run E (zk_VT E) M_X8_wayOn (C_X8_wayOn E) P PX K n 47 [l0, l1, l2, l3, l4, l5, l6, zk_kl l7, some (.int x), l9] r (σ, sz, k, c)) ∧
  (∀ (n : Nat) (l0 l1 l2 l3 l4 l5 l6 l7 l9 : Option Value) (y8 : Int32) (r : List Value) (σ : zk_S) (sz k c : Nat), zk_run E (zk_VT E) M_X8_wayOn (C_X8_wayOn E) P PX K (n + 1) 47 [l0, l1, l2, l3, l4, l5, l6, l7, some (.int y8), l9] r (σ, sz, k, c) = zk_run E (zk_VT E) M_X8_wayOn (C_X8_wayOn E) P PX K n 49 [l0, l1, l2, l3, l4, l5, l6, l7, some (.int y8), l9] (.int y8 :: r) (σ, sz, k, c)) ∧
  (∀ (n : Nat) (l0 l1 l2 l3 l4 l5 l6 l7 l8 l9 : Option Value)  (r : List Value) (σ : zk_S) (sz k c : Nat), zk_run E (zk_VT E) M_X8_wayOn (C_X8_wayOn E) P PX K (n + 1) 49 [l0, l1, l2, l3, l4, l5, l6, l7, l8, l9] r (σ, sz, k, c) = zk_run E (zk_VT E) M_X8_wayOn (C_X8_wayOn E) P PX K n 50 [l0, l1, l2, l3, l4, l5, l6, l7, l8, l9] (.int ((-1)) :: r) (σ, sz, k, c)) ∧
  (∀ (n : Nat) (l0 l1 l2 l3 l4 l5 l6 l7 l8 l9 : Option Value) (x y : Int32) (r : List Value) (σ : zk_S) (sz k c : Nat), zk_run E (zk_VT E) M_X8_wayOn (C_X8_wayOn E) P PX K (n + 1) 50 [l0, l1, l2, l3, l4, l5, l6, l7, l8, l9] (.int y :: .int x :: r) (σ, sz, k, c) = ((x = y → zk_run E (zk_VT E) M_X8_wayOn (C_X8_wayOn E) P PX K n 95 [l0, l1, l2, l3, l4, l5, l6, l7, l8, l9] r (σ, sz, k, c)) ∧ (¬ (x = y) → zk_run E (zk_VT E) M_X8_wayOn (C_X8_wayOn E) P PX K n 53 [l0, l1, l2, l3, l4, l5, l6, l7, l8, l9] r (σ, sz, k, c)))) ∧
  (∀ (n : Nat) (l0 l1 l2 l4 l5 l6 l7 l8 l9 : Option Value) (y3 : Value) (r : List Value) (σ : zk_S) (sz k c : Nat), zk_run E (zk_VT E) M_X8_wayOn (C_X8_wayOn E) P PX K (n + 1) 53 [l0, l1, l2, some y3, l4, l5, l6, l7, l8, l9] r (σ, sz, k, c) = (zk_isr y3 ∧ zk_run E (zk_VT E) M_X8_wayOn (C_X8_wayOn E) P PX K n 54 [l0, l1, l2, some y3, l4, l5, l6, l7, l8, l9] (y3 :: r) (σ, sz, k, c))) ∧
  (∀ (n : Nat) (l0 l1 l2 l3 l4 l5 l6 l7 l8 l9 : Option Value) (a : Nat) (r : List Value) (σ : zk_S) (sz k c : Nat), zk_run E (zk_VT E) M_X8_wayOn (C_X8_wayOn E) P PX K (n + 1) 54 [l0, l1, l2, l3, l4, l5, l6, l7, l8, l9] (.ref a :: r) (σ, sz, k, c) = zk_fld (zk_view E σ a) [1, 6] 4 (fun v => zk_run E (zk_VT E) M_X8_wayOn (C_X8_wayOn E) P PX K n 57 [l0, l1, l2, l3, l4, l5, l6, l7, l8, l9] (v :: r) (σ, sz, k, c))) ∧
  (∀ (n : Nat) (l0 l1 l2 l3 l4 l5 l6 l8 l9 : Option Value) (y7 : Value) (r : List Value) (σ : zk_S) (sz k c : Nat), zk_run E (zk_VT E) M_X8_wayOn (C_X8_wayOn E) P PX K (n + 1) 57 [l0, l1, l2, l3, l4, l5, l6, some y7, l8, l9] r (σ, sz, k, c) = (zk_isr y7 ∧ zk_run E (zk_VT E) M_X8_wayOn (C_X8_wayOn E) P PX K n 59 [l0, l1, l2, l3, l4, l5, l6, some y7, l8, l9] (y7 :: r) (σ, sz, k, c))) ∧
  (∀ (n : Nat) (l0 l1 l2 l4 l5 l6 l7 l8 l9 : Option Value) (y3 : Value) (r : List Value) (σ : zk_S) (sz k c : Nat), zk_run E (zk_VT E) M_X8_wayOn (C_X8_wayOn E) P PX K (n + 1) 59 [l0, l1, l2, some y3, l4, l5, l6, l7, l8, l9] r (σ, sz, k, c) = (zk_isr y3 ∧ zk_run E (zk_VT E) M_X8_wayOn (C_X8_wayOn E) P PX K n 60 [l0, l1, l2, some y3, l4, l5, l6, l7, l8, l9] (y3 :: r) (σ, sz, k, c))) ∧
  (∀ (n : Nat) (l0 l1 l2 l3 l4 l5 l6 l7 l8 l9 : Option Value) (a : Nat) (r : List Value) (σ : zk_S) (sz k c : Nat), zk_run E (zk_VT E) M_X8_wayOn (C_X8_wayOn E) P PX K (n + 1) 60 [l0, l1, l2, l3, l4, l5, l6, l7, l8, l9] (.ref a :: r) (σ, sz, k, c) = zk_fld (zk_view E σ a) [1, 6] 2 (fun v => zk_run E (zk_VT E) M_X8_wayOn (C_X8_wayOn E) P PX K n 63 [l0, l1, l2, l3, l4, l5, l6, l7, l8, l9] (v :: r) (σ, sz, k, c))) ∧
  (∀ (n : Nat) (l0 l1 l2 l4 l5 l6 l7 l8 l9 : Option Value) (y3 : Value) (r : List Value) (σ : zk_S) (sz k c : Nat), zk_run E (zk_VT E) M_X8_wayOn (C_X8_wayOn E) P PX K (n + 1) 63 [l0, l1, l2, some y3, l4, l5, l6, l7, l8, l9] r (σ, sz, k, c) = (zk_isr y3 ∧ zk_run E (zk_VT E) M_X8_wayOn (C_X8_wayOn E) P PX K n 64 [l0, l1, l2, some y3, l4, l5, l6, l7, l8, l9] (y3 :: r) (σ, sz, k, c))) ∧
  (∀ (n : Nat) (l0 l1 l2 l3 l4 l5 l6 l7 l8 l9 : Option Value) (a : Nat) (r : List Value) (σ : zk_S) (sz k c : Nat), zk_run E (zk_VT E) M_X8_wayOn (C_X8_wayOn E) P PX K (n + 1) 64 [l0, l1, l2, l3, l4, l5, l6, l7, l8, l9] (.ref a :: r) (σ, sz, k, c) = zk_fld (zk_view E σ a) [1, 6] 3 (fun v => zk_run E (zk_VT E) M_X8_wayOn (C_X8_wayOn E) P PX K n 67 [l0, l1, l2, l3, l4, l5, l6, l7, l8, l9] (v :: r) (σ, sz, k, c))) ∧
  (∀ (n : Nat) (l0 l1 l2 l3 l4 l5 l6 l7 l8 l9 : Option Value) (v0 : Value) (v1 : Value) (v2 : Value) (v3 : Value)  (σ : zk_S) (sz k c : Nat), zk_run E (zk_VT E) M_X8_wayOn (C_X8_wayOn E) P PX K (n + 1) 67 [l0, l1, l2, l3, l4, l5, l6, l7, l8, l9] [v0, v1, v2, v3] (σ, sz, k, c) = (k + 0 ≤ 0 ∧ c + 0 ≤ 0 ∧ (zk_rv (zk_VT E) (fun ci => Nat.beq ci 1 || Nat.beq ci 6) (sp_X2_distanceTo E)) [v2, v1, v0] σ sz (fun v s2 z2 => zk_run E (zk_VT E) M_X8_wayOn (C_X8_wayOn E) P PX K n 70 [l0, l1, l2, l3, l4, l5, l6, l7, l8, l9] (zk_psh v [v3]) (s2, z2, k + 0, c + 0)) (fun X s2 z2 => PX X s2 z2))) ∧
  (∀ (n : Nat) (l0 l1 l2 l3 l4 l5 l6 l7 l8 l9 : Option Value) (x y : Int32) (r : List Value) (σ : zk_S) (sz k c : Nat), zk_run E (zk_VT E) M_X8_wayOn (C_X8_wayOn E) P PX K (n + 1) 70 [l0, l1, l2, l3, l4, l5, l6, l7, l8, l9] (.int y :: .int x :: r) (σ, sz, k, c) = zk_run E (zk_VT E) M_X8_wayOn (C_X8_wayOn E) P PX K n 71 [l0, l1, l2, l3, l4, l5, l6, l7, l8, l9] (.int (x + y) :: r) (σ, sz, k, c)) ∧
  (∀ (n : Nat) (l0 l1 l2 l3 l4 l5 l6 l7 l9 : Option Value) (y8 : Int32) (r : List Value) (σ : zk_S) (sz k c : Nat), zk_run E (zk_VT E) M_X8_wayOn (C_X8_wayOn E) P PX K (n + 1) 71 [l0, l1, l2, l3, l4, l5, l6, l7, some (.int y8), l9] r (σ, sz, k, c) = zk_run E (zk_VT E) M_X8_wayOn (C_X8_wayOn E) P PX K n 73 [l0, l1, l2, l3, l4, l5, l6, l7, some (.int y8), l9] (.int y8 :: r) (σ, sz, k, c)) ∧
  (∀ (n : Nat) (l0 l1 l2 l3 l4 l5 l6 l7 l8 l9 : Option Value) (x y : Int32) (r : List Value) (σ : zk_S) (sz k c : Nat), zk_run E (zk_VT E) M_X8_wayOn (C_X8_wayOn E) P PX K (n + 1) 73 [l0, l1, l2, l3, l4, l5, l6, l7, l8, l9] (.int y :: .int x :: r) (σ, sz, k, c) = zk_run E (zk_VT E) M_X8_wayOn (C_X8_wayOn E) P PX K n 74 [l0, l1, l2, l3, l4, l5, l6, l7, l8, l9] (.int (x + y) :: r) (σ, sz, k, c)) ∧
  (∀ (n : Nat) (l0 l1 l2 l3 l4 l5 l6 l7 l8 l9 : Option Value) (x : Int32) (r : List Value) (σ : zk_S) (sz k c : Nat), zk_run E (zk_VT E) M_X8_wayOn (C_X8_wayOn E) P PX K (n + 1) 74 [l0, l1, l2, l3, l4, l5, l6, l7, l8, l9] (.int x :: r) (σ, sz, k, c) = zk_run E (zk_VT E) M_X8_wayOn (C_X8_wayOn E) P PX K n 76 [l0, l1, l2, l3, l4, l5, l6, l7, zk_kl l8, some (.int x)] r (σ, sz, k, c)) ∧
  (∀ (n : Nat) (l0 l1 l2 l3 l4 l5 l6 l7 l8 : Option Value) (y9 : Int32) (r : List Value) (σ : zk_S) (sz k c : Nat), zk_run E (zk_VT E) M_X8_wayOn (C_X8_wayOn E) P PX K (n + 1) 76 [l0, l1, l2, l3, l4, l5, l6, l7, l8, some (.int y9)] r (σ, sz, k, c) = zk_run E (zk_VT E) M_X8_wayOn (C_X8_wayOn E) P PX K n 78 [l0, l1, l2, l3, l4, l5, l6, l7, l8, some (.int y9)] (.int y9 :: r) (σ, sz, k, c)) ∧
  (∀ (n : Nat) (l0 l1 l2 l3 l4 l6 l7 l8 l9 : Option Value) (y5 : Int32) (r : List Value) (σ : zk_S) (sz k c : Nat), zk_run E (zk_VT E) M_X8_wayOn (C_X8_wayOn E) P PX K (n + 1) 78 [l0, l1, l2, l3, l4, some (.int y5), l6, l7, l8, l9] r (σ, sz, k, c) = zk_run E (zk_VT E) M_X8_wayOn (C_X8_wayOn E) P PX K n 80 [l0, l1, l2, l3, l4, some (.int y5), l6, l7, l8, l9] (.int y5 :: r) (σ, sz, k, c)) := ⟨by intros; rfl, by intros; rfl, by intros; rfl, by intros; rfl, by intros; rfl, by intros; rfl, by intros; rfl, by intros; rfl, by intros; rfl, by intros; rfl, by intros; rfl, by intros; rfl, by intros; rfl, by intros; rfl, by intros; rfl, by intros; rfl, by intros; rfl, by intros; rfl, by intros; rfl, by intros; rfl, by intros; rfl, by intros; rfl, by intros; rfl, by intros; rfl, by intros; rfl, by intros; rfl, by intros; rfl, by intros; rfl, by intros; rfl, by intros; rfl, by intros; rfl, by intros; rfl, by intros; rfl, by intros; rfl, by intros; rfl, by intros; rfl, by intros; rfl, by intros; rfl, by intros; rfl, by intros; rfl⟩
theorem r_X8_wayOn_1 (E : zk_E) (P : zk_P zk_S) (PX : zk_X zk_S) (K : Nat → zk_L → List Value → zk_W zk_S → Prop) : (∀ (n : Nat) (l0 l1 l2 l3 l4 l5 l6 l7 l8 l9 : Option Value) (v0 : Value) (v1 : Value)  (σ : zk_S) (sz k c : Nat), zk_run E (zk_VT E) M_X8_wayOn (C_X8_wayOn E) P PX K (n + 1) 80 [l0, l1, l2, l3, l4, l5, l6, l7, l8, l9] [v0, v1] (σ, sz, k, c) = (k + 0 ≤ 0 ∧ c + 0 ≤ 0 ∧ (sp_X8_isLess E) [v1, v0] σ sz (fun v s2 z2 => zk_run E (zk_VT E) M_X8_wayOn (C_X8_wayOn E) P PX K n 83 [l0, l1, l2, l3, l4, l5, l6, l7, l8, l9] (zk_psh v []) (s2, z2, k + 0, c + 0)) (fun X s2 z2 => PX X s2 z2))) ∧
  (∀ (n : Nat) (l0 l1 l2 l3 l4 l5 l6 l7 l8 l9 : Option Value) (x : Int32) (r : List Value) (σ : zk_S) (sz k c : Nat), zk_run E (zk_VT E) M_X8_wayOn (C_X8_wayOn E) P PX K (n + 1) 83 [l0, l1, l2, l3, l4, l5, l6, l7, l8, l9] (.int x :: r) (σ, sz, k, c) = ((x = 0 → zk_run E (zk_VT E) M_X8_wayOn (C_X8_wayOn E) P PX K n 91 [l0, l1, l2, l3, l4, l5, l6, l7, l8, l9] r (σ, sz, k, c)) ∧ (¬ (x = 0) → zk_run E (zk_VT E) M_X8_wayOn (C_X8_wayOn E) P PX K n 86 [l0, l1, l2, l3, l4, l5, l6, l7, l8, l9] r (σ, sz, k, c)))) ∧
  (∀ (n : Nat) (l0 l1 l2 l3 l4 l5 l6 l7 l8 : Option Value) (y9 : Int32) (r : List Value) (σ : zk_S) (sz k c : Nat), zk_run E (zk_VT E) M_X8_wayOn (C_X8_wayOn E) P PX K (n + 1) 86 [l0, l1, l2, l3, l4, l5, l6, l7, l8, some (.int y9)] r (σ, sz, k, c) = zk_run E (zk_VT E) M_X8_wayOn (C_X8_wayOn E) P PX K n 88 [l0, l1, l2, l3, l4, l5, l6, l7, l8, some (.int y9)] (.int y9 :: r) (σ, sz, k, c)) ∧
  (∀ (n : Nat) (l0 l1 l2 l3 l4 l5 l6 l7 l8 l9 : Option Value)  (r : List Value) (σ : zk_S) (sz k c : Nat), zk_run E (zk_VT E) M_X8_wayOn (C_X8_wayOn E) P PX K (n + 1) 88 [l0, l1, l2, l3, l4, l5, l6, l7, l8, l9] r (σ, sz, k, c) = zk_run E (zk_VT E) M_X8_wayOn (C_X8_wayOn E) P PX K n 93 [l0, l1, l2, l3, l4, l5, l6, l7, l8, l9] r (σ, sz, k, c)) ∧
  (∀ (n : Nat) (l0 l1 l2 l3 l4 l6 l7 l8 l9 : Option Value) (y5 : Int32) (r : List Value) (σ : zk_S) (sz k c : Nat), zk_run E (zk_VT E) M_X8_wayOn (C_X8_wayOn E) P PX K (n + 1) 91 [l0, l1, l2, l3, l4, some (.int y5), l6, l7, l8, l9] r (σ, sz, k, c) = zk_run E (zk_VT E) M_X8_wayOn (C_X8_wayOn E) P PX K n 93 [l0, l1, l2, l3, l4, some (.int y5), l6, l7, l8, l9] (.int y5 :: r) (σ, sz, k, c)) ∧
  (∀ (n : Nat) (l0 l1 l2 l3 l4 l5 l6 l7 l8 l9 : Option Value) (x : Int32) (r : List Value) (σ : zk_S) (sz k c : Nat), zk_run E (zk_VT E) M_X8_wayOn (C_X8_wayOn E) P PX K (n + 1) 93 [l0, l1, l2, l3, l4, l5, l6, l7, l8, l9] (.int x :: r) (σ, sz, k, c) = zk_run E (zk_VT E) M_X8_wayOn (C_X8_wayOn E) P PX K n 95 [l0, l1, l2, l3, zk_kl l4, some (.int x), l6, l7, l8, l9] r (σ, sz, k, c)) ∧
  (∀ (n : Nat) (l0 l1 l2 l3 l4 l5 l7 l8 l9 : Option Value) (y6 : Int32) (r : List Value) (σ : zk_S) (sz k c : Nat), zk_run E (zk_VT E) M_X8_wayOn (C_X8_wayOn E) P PX K (n + 1) 95 [l0, l1, l2, l3, l4, l5, some (.int y6), l7, l8, l9] r (σ, sz, k, c) = zk_run E (zk_VT E) M_X8_wayOn (C_X8_wayOn E) P PX K n 98 [l0, l1, l2, l3, l4, zk_kl l5, some (.int (y6 + 1)), l7, l8, l9] r (σ, sz, k, c)) ∧
  (∀ (n : Nat) (l0 l1 l2 l3 l4 l5 l6 l7 l8 l9 : Option Value)  (r : List Value) (σ : zk_S) (sz k c : Nat), zk_run E (zk_VT E) M_X8_wayOn (C_X8_wayOn E) P PX K (n + 1) 98 [l0, l1, l2, l3, l4, l5, l6, l7, l8, l9] r (σ, sz, k, c) = zk_run E (zk_VT E) M_X8_wayOn (C_X8_wayOn E) P PX K n 6 [l0, l1, l2, l3, l4, l5, l6, l7, l8, l9] r (σ, sz, k, c)) ∧
  (∀ (n : Nat) (l0 l1 l2 l3 l4 l6 l7 l8 l9 : Option Value) (y5 : Int32) (r : List Value) (σ : zk_S) (sz k c : Nat), zk_run E (zk_VT E) M_X8_wayOn (C_X8_wayOn E) P PX K (n + 1) 101 [l0, l1, l2, l3, l4, some (.int y5), l6, l7, l8, l9] r (σ, sz, k, c) = zk_run E (zk_VT E) M_X8_wayOn (C_X8_wayOn E) P PX K n 103 [l0, l1, l2, l3, l4, some (.int y5), l6, l7, l8, l9] (.int y5 :: r) (σ, sz, k, c)) ∧
  (∀ (n : Nat) (l0 l1 l2 l3 l4 l5 l6 l7 l8 l9 : Option Value) (x : Int32)  (σ : zk_S) (sz k c : Nat), zk_run E (zk_VT E) M_X8_wayOn (C_X8_wayOn E) P PX K (n + 1) 103 [l0, l1, l2, l3, l4, l5, l6, l7, l8, l9] [.int x] (σ, sz, k, c) = (zk_nok (some (.int)) x ∧ P (some (.int x)) σ sz ∧ k ≤ 0 ∧ c ≤ 0)) ∧
  (∀ (n : Nat) (l0 l1 l2 l3 l4 l5 l6 l7 l8 l9 : Option Value) (r : List Value) (w : zk_W zk_S), zk_go E (zk_VT E) M_X8_wayOn (C_X8_wayOn E) P PX K n 0 [l0, l1, l2, l3, l4, l5, l6, l7, l8, l9] r w = zk_run E (zk_VT E) M_X8_wayOn (C_X8_wayOn E) P PX K (n + 1) 0 [l0, l1, l2, l3, l4, l5, l6, l7, l8, l9] r w) ∧
  (∀ (n : Nat) (l0 l1 l2 l3 l4 l5 l7 l8 l9 : Option Value) (y6 : Int32) (r : List Value) (σ : zk_S) (sz k c : Nat), zk_go E (zk_VT E) M_X8_wayOn (C_X8_wayOn E) P PX K n 6 [l0, l1, l2, l3, l4, l5, some (.int y6), l7, l8, l9] r (σ, sz, k, c) = zk_run E (zk_VT E) M_X8_wayOn (C_X8_wayOn E) P PX K n 8 [l0, l1, l2, l3, l4, l5, some (.int y6), l7, l8, l9] (.int y6 :: r) (σ, sz, k, c)) := ⟨by intros; rfl, by intros; rfl, by intros; rfl, by intros; rfl, by intros; rfl, by intros; rfl, by intros; rfl, by intros; rfl, by intros; rfl, by intros; rfl, by intros; rfl, by intros; rfl⟩
theorem vc_X8_wayOn (E : zk_E) : zk_VC E (zk_VT E) M_X8_wayOn (C_X8_wayOn E) 10 (sp_X8_wayOn E) := by
  intro av σ sz P PX h
  obtain ⟨J, N, Q, O, U⟩ := σ
  unfold sp_X8_wayOn at h
  split at h
  case h_2 => exact h.elim
  rename_i a0 p ix x b
  obtain ⟨rfl, h⟩ := h
  refine ⟨Nat.le_of_ble_eq_true rfl, fun G hG => ?_⟩
  change G 0 [some (.ref (zk_ad E 7)), some (.ref p), some (.int ix), some (.ref x), some (.ref b), none, none, none, none, none] [] ((J, N, Q, O, U), sz, 0, 0)
  try dsimp only at h
  obtain ⟨rfl, J1, N1, fl, v, B, i, j, hmi, hxr, hwv, hB, hi, rfl, hqx, ho, hj, hb, h⟩ := h
  have hj20 := hj.lt hmi
  obtain ⟨hMX, hxa, ci, fw, sh, rest, hci, hOx, -, -⟩ := hxr.ex hi hqx
  have hOx : O x = some (cX ci (rq Q (ef N1 i)) (rq Q (et N1 i)) (m_px N1 (2 * i)) (m_py N1 (2 * i)) (nI (steep (2 * i))) fw sh rest) := hOx
  have hact := (act_dir hmi hi hMX ho).1
  have hgx := m_gx hmi hact
  obtain ⟨⟨px1, px2⟩, py1, py2⟩ := id hgx
  have hs : steep (2 * i) ≤ 20 := by unfold steep; split <;> omega
  have gx4 : ∀ F : Value → Prop, zk_fld (O x) [1, 6] 4 F = F (.int (nI (steep (2 * i)))) := fun F => by rw [hOx]; unfold cX; rcases hci with rfl | rfl <;> simp [zk_fld_o, zk_nth]
  have gx2 : ∀ F : Value → Prop, zk_fld (O x) [1, 6] 2 F = F (.int (nI (g_x N1 (2 * i)))) := fun F => by rw [hOx, px1]; unfold cX; rcases hci with rfl | rfl <;> simp [zk_fld_o, zk_nth]
  have gx3 : ∀ F : Value → Prop, zk_fld (O x) [1, 6] 3 F = F (.int (nI (g_y N1 (2 * i)))) := fun F => by rw [hOx, py1]; unfold cX; rcases hci with rfl | rfl <;> simp [zk_fld_o, zk_nth]
  unfold g_on g_least at h
  have loop : ∀ m k l7 l8 l9, k + m = 50 → G 6 [some (.ref (zk_ad E 7)), some (.ref (zk_ad E 1)), some (.int (nI i)), some (.ref x), some (.ref b), some (.int (wl (steep (2 * i)) (fmin (g_c J1 N1 (nI j) (nI i) v) (g_f N1 v (g_x N1 (2 * i)) (g_y N1 (2 * i))) (m_actN J1 N1 (2 * k)) INF))), some (.int (nI k)), l7, l8, l9] [] ((J, N, Q, O, U), sz, 0, 0) := by
    intro m
    induction m with
    | zero =>
      intro k l7 l8 l9 hk
      have c1 : (50 : Int32) ≤ nI k := (nI_le (a := 50) (by omega) (by omega) : nI 50 ≤ nI k)
      have ek : k = 50 := by omega
      subst ek
      (refine hG 900 _ _ _ _ ?_; simp only [r_X8_wayOn, r_X8_wayOn_1, zk_kl_none, zk_kl_int, zk_kl_ref, zk_kl_null, zk_kl_long, zk_kl_rf, zk_isr_ref, zk_isr_null, zk_isr_rf9, zk_c1_int, zk_c1_ref, zk_c1_null, zk_c1_rf, zk_psh_some, zk_psh_none, zk_nok_int, zk_nok_bool0, zk_nok_bool1, zk_nok_b, zk_fok_0, zk_fok_1, zk_fok_2, zk_fok_n, zk_fok_rf, zb_f, zb_p, zb_i, zb_a, zb_s, zk_nth_0, zk_nth_s, zk_fld_o, zk_put_o, zk_rv_eq, zk_ri_eq, zk_is_o, List.mem_cons, List.not_mem_nil, or_false, false_or, or_true, true_or, and_true, true_and, not_false_iff, not_true_eq_false, true_implies, false_implies, imp_self, implies_true, forall_const, zk_lit, zk_uj_ap, zk_un_ap, zk_un_un, zk_uj_uj, Nat.reduceEqDiff, eq_self, zk_bq, Bool.true_or, Bool.false_or, Nat.le_refl, Nat.zero_add, Nat.add_zero, Nat.reduceAdd, Nat.reduceLeDiff, Nat.le_zero_eq, and_self, and_false, false_and, ite_true, ite_false, Nat.zero_le, List.length_cons, List.length_nil, Option.some.injEq, forall_eq', reduceCtorEq, c1])
      exact h
    | succ m ih =>
      intro k l7 l8 l9 hk
      have c1 : ¬ (50 : Int32) ≤ nI k := (nI_ge (b := 50) (by omega) (by decide) : ¬ nI 50 ≤ nI k)
      have ih2 := fun l7 l8 l9 => ih (k + 1) l7 l8 l9 (by omega)
      have hin := n_isIn49 (i := k) (by omega)
      have hcl : (nI k).toNatClampNeg = k := n_cl (by omega)
      have hin5 : vp_in (nI k) 50 := n_in (by omega) (by decide)
      obtain ⟨e1, e2, e3, e4⟩ := d2e k
      rw [show 2 * (k + 1) = 2 * k + 1 + 1 by omega, fm_succ hj20, fm_succ hj20] at ih2
      have hLI := fmin_le_init (g_c J1 N1 (nI j) (nI i) v) (g_f N1 v (g_x N1 (2 * i)) (g_y N1 (2 * i))) (m_actN J1 N1 (2 * k)) INF
      have hLB : fmin (g_c J1 N1 (nI j) (nI i) v) (g_f N1 v (g_x N1 (2 * i)) (g_y N1 (2 * i))) (m_actN J1 N1 (2 * k)) INF < INF → fmin (g_c J1 N1 (nI j) (nI i) v) (g_f N1 v (g_x N1 (2 * i)) (g_y N1 (2 * i))) (m_actN J1 N1 (2 * k)) INF ≤ 100000000 := fun w => by
        have := fmin_B (C := B + 800) _ _ (fun e he hc => by
          have hem : e ∈ m_act J1 N1 := by
            have q := List.mem_filter.mp he
            exact m_act_mem.mpr ⟨by have := List.mem_range.mp q.1; omega, of_decide_eq_true q.2⟩
          have hg := m_gx hmi hem
          have hd := dN_le hg.1.2 hg.2.2 px2 py2
          have hv := (hwv.2.1 e).2 (g_c_iff.mp hc).2.2
          unfold g_f
          omega) w
        omega
      generalize fmin (g_c J1 N1 (nI j) (nI i) v) (g_f N1 v (g_x N1 (2 * i)) (g_y N1 (2 * i))) (m_actN J1 N1 (2 * k)) INF = L at hLI hLB ih2 ⊢
      have cf : ∀ e, (e = 2 * k ∨ e = 2 * k + 1) → (m_from J1 N1 e ≠ nI j ∨ v e = INF ∨ k = i) → g_c J1 N1 (nI j) (nI i) v e = false := fun e he w => by
        cases z : g_c J1 N1 (nI j) (nI i) v e with
        | false => rfl
        | true =>
          obtain ⟨z1, z2, z3⟩ := g_c_iff.mp z
          rcases w with w | w | w
          · exact absurd z2 w
          · omega
          · exact absurd (by rcases he with rfl | rfl; rw [e1, w]; rw [e2, w]) z1
      cases q : xat Q k with
      | none =>
        have nx := (hxr.exn (i := k) (by omega)).mp q
        obtain ⟨a1, a2⟩ := act_no (J := J1) (N := N1) (i := k) (fun w => nx w.1)
        rw [cf (2 * k) (Or.inl rfl) (Or.inr (Or.inl (hwv.2.2 _ a1))), cf (2 * k + 1) (Or.inr rfl) (Or.inr (Or.inl (hwv.2.2 _ a2))), if_neg (by decide), if_neg (by decide)] at ih2
        (refine hG 900 _ _ _ _ ?_; simp only [r_X8_wayOn, r_X8_wayOn_1, zk_kl_none, zk_kl_int, zk_kl_ref, zk_kl_null, zk_kl_long, zk_kl_rf, zk_isr_ref, zk_isr_null, zk_isr_rf9, zk_c1_int, zk_c1_ref, zk_c1_null, zk_c1_rf, zk_psh_some, zk_psh_none, zk_nok_int, zk_nok_bool0, zk_nok_bool1, zk_nok_b, zk_fok_0, zk_fok_1, zk_fok_2, zk_fok_n, zk_fok_rf, zb_f, zb_p, zb_i, zb_a, zb_s, zk_nth_0, zk_nth_s, zk_fld_o, zk_put_o, zk_rv_eq, zk_ri_eq, zk_is_o, List.mem_cons, List.not_mem_nil, or_false, false_or, or_true, true_or, and_true, true_and, not_false_iff, not_true_eq_false, true_implies, false_implies, imp_self, implies_true, forall_const, zk_lit, zk_uj_ap, zk_un_ap, zk_un_un, zk_uj_uj, Nat.reduceEqDiff, eq_self, zk_bq, Bool.true_or, Bool.false_or, Nat.le_refl, Nat.zero_add, Nat.add_zero, Nat.reduceAdd, Nat.reduceLeDiff, Nat.le_zero_eq, and_self, and_false, false_and, ite_true, ite_false, Nat.zero_le, List.length_cons, List.length_nil, Option.some.injEq, forall_eq', reduceCtorEq, c1, spe_X5_exitAt, hin, hcl, q, va_rf_n, Bool.true_eq_false, n_succ])
        exact ih2 _ _ _
      | some c =>
        obtain ⟨hMk, hca, ci2, fw2, sh2, rest2, hci2, hOc, -, -⟩ := hxr.ex (i := k) (by omega) q
        have hOc : O c = some (cX ci2 (rq Q (ef N1 k)) (rq Q (et N1 k)) (m_px N1 (2 * k)) (m_py N1 (2 * k)) (nI (steep (2 * k))) fw2 sh2 rest2) := hOc
        have hXc : isX (O c) := by rw [hOc]; exact ⟨ci2, _, _, _, _, _, _, _, _, hci2, rfl⟩
        have hca1 := hca.1
        have hx1 := hxa.1
        have hic : ∀ kk, zk_is (O c) kk = (kk ci2 = true) := fun kk => by rw [hOc]; rfl
        have kk : (Nat.beq ci2 1 || Nat.beq ci2 6) = true := by rcases hci2 with rfl | rfl <;> rfl
        by_cases ki : k = i
        · rw [cf (2 * k) (Or.inl rfl) (Or.inr (Or.inr ki)), cf (2 * k + 1) (Or.inr rfl) (Or.inr (Or.inr ki)), if_neg (by decide), if_neg (by decide)] at ih2
          have k2 : (nI k = nI i) = True := eq_true (by rw [ki])
          (refine hG 900 _ _ _ _ ?_; simp only [r_X8_wayOn, r_X8_wayOn_1, zk_kl_none, zk_kl_int, zk_kl_ref, zk_kl_null, zk_kl_long, zk_kl_rf, zk_isr_ref, zk_isr_null, zk_isr_rf9, zk_c1_int, zk_c1_ref, zk_c1_null, zk_c1_rf, zk_psh_some, zk_psh_none, zk_nok_int, zk_nok_bool0, zk_nok_bool1, zk_nok_b, zk_fok_0, zk_fok_1, zk_fok_2, zk_fok_n, zk_fok_rf, zb_f, zb_p, zb_i, zb_a, zb_s, zk_nth_0, zk_nth_s, zk_fld_o, zk_put_o, zk_rv_eq, zk_ri_eq, zk_is_o, List.mem_cons, List.not_mem_nil, or_false, false_or, or_true, true_or, and_true, true_and, not_false_iff, not_true_eq_false, true_implies, false_implies, imp_self, implies_true, forall_const, zk_lit, zk_uj_ap, zk_un_ap, zk_un_un, zk_uj_uj, Nat.reduceEqDiff, eq_self, zk_bq, Bool.true_or, Bool.false_or, Nat.le_refl, Nat.zero_add, Nat.add_zero, Nat.reduceAdd, Nat.reduceLeDiff, Nat.le_zero_eq, and_self, and_false, false_and, ite_true, ite_false, Nat.zero_le, List.length_cons, List.length_nil, Option.some.injEq, forall_eq', reduceCtorEq, c1, spe_X5_exitAt, hin, hcl, q, va_rf_s, Bool.true_eq_false, k2, n_succ])
          exact ih2 _ _ _
        · have k2 : (nI k = nI i) = False := by rw [n_inj (by omega) (by omega)]; exact eq_false ki
          obtain ⟨w8, w9⟩ := hwv.1 k (by omega)
          have q1 := hxr.2.1.rqe hmi (x := ef N1 k) (by obtain ⟨r, r1, r2, -⟩ := ends_e hmi hMk; exact Or.inr ⟨r, r1, r2⟩) hj hb
          have q2 := hxr.2.1.rqe hmi (x := et N1 k) (by obtain ⟨r, r1, r2, r3⟩ := ends_e hmi hMk; exact r3.imp id (fun ⟨q, a1, a2, a3⟩ => ⟨q, a1, a3⟩)) hj hb
          have hwf : x_wf N (O c) k b = if ef N1 k = nI j then wi (v (2 * k)) else if et N1 k = nI j then wi (v (2 * k + 1)) else -1 := by
            unfold x_wf
            rw [hOc]
            simp only [fR_X, w8, w9]
            by_cases z1 : ef N1 k = nI j
            · rw [if_pos z1, if_pos (by rw [q1]; exact z1)]
            · rw [if_neg z1, if_neg (by rw [q1]; exact z1)]
              by_cases z2 : et N1 k = nI j
              · rw [if_pos z2, if_pos (by rw [q2]; exact z2)]
              · rw [if_neg z2, if_neg (by rw [q2]; exact z2)]
          -- what is added, at one direction
          have go : ∀ e, (e = 2 * k ∨ e = 2 * k + 1) → x_wf N (O c) k b = wi (v e) → v e < INF → e ∈ m_act J1 N1 → (∀ l7 l8 l9, G 6 [some (.ref (zk_ad E 7)), some (.ref (zk_ad E 1)), some (.int (nI i)), some (.ref x), some (.ref b), some (.int (wl (steep (2 * i)) (min L (g_f N1 v (g_x N1 (2 * i)) (g_y N1 (2 * i)) e)))), some (.int (nI (k + 1))), l7, l8, l9] [] ((J, N, Q, O, U), sz, 0, 0)) → G 6 [some (.ref (zk_ad E 7)), some (.ref (zk_ad E 1)), some (.int (nI i)), some (.ref x), some (.ref b), some (.int (wl (steep (2 * i)) L)), some (.int (nI k)), l7, l8, l9] [] ((J, N, Q, O, U), sz, 0, 0) := by
            intro e he hw1 hv1 hem hg
            have hge := m_gx hmi hem
            have hd := dN_le hge.1.2 hge.2.2 px2 py2
            have hvB := (hwv.2.1 e).2 hv1
            have hdist : i_abs (fI (O c) 2 - nI (g_x N1 (2 * i))) + i_abs (fI (O c) 3 - nI (g_y N1 (2 * i))) = nI (dN (g_x N1 e) (g_y N1 e) (g_x N1 (2 * i)) (g_y N1 (2 * i))) := by
              have := m_dist_n hge px2 py2
              unfold m_dist at this
              rw [hOc]
              simp only [fI_X]
              rcases he with rfl | rfl
              · exact this
              · rw [(px_o N1 k).1, (px_o N1 k).2] at this; exact this
            have hw2 : x_wf N (O c) k b = nI (v e) := by rw [hw1]; unfold wi; rw [if_neg (by omega)]
            have n1 := nI_ne1 (r := v e) (by omega)
            have hsum : nI (steep (2 * i)) + nI (dN (g_x N1 e) (g_y N1 e) (g_x N1 (2 * i)) (g_y N1 (2 * i))) + nI (v e) = nI (steep (2 * i) + g_f N1 v (g_x N1 (2 * i)) (g_y N1 (2 * i)) e) := by
              rw [n_add, n_add]; unfold g_f; rw [Nat.add_assoc]
            rcases w_less_wl (s := steep (2 * i)) (x := g_f N1 v (g_x N1 (2 * i)) (g_y N1 (2 * i)) e) (L := L) hs (by unfold g_f; omega) hLI hLB with ⟨l1, l2⟩ | ⟨l1, l2⟩
            · rw [l2] at hg
              (refine hG 900 _ _ _ _ ?_; simp only [r_X8_wayOn, r_X8_wayOn_1, zk_kl_none, zk_kl_int, zk_kl_ref, zk_kl_null, zk_kl_long, zk_kl_rf, zk_isr_ref, zk_isr_null, zk_isr_rf9, zk_c1_int, zk_c1_ref, zk_c1_null, zk_c1_rf, zk_psh_some, zk_psh_none, zk_nok_int, zk_nok_bool0, zk_nok_bool1, zk_nok_b, zk_fok_0, zk_fok_1, zk_fok_2, zk_fok_n, zk_fok_rf, zb_f, zb_p, zb_i, zb_a, zb_s, zk_nth_0, zk_nth_s, zk_fld_o, zk_put_o, zk_rv_eq, zk_ri_eq, zk_is_o, List.mem_cons, List.not_mem_nil, or_false, false_or, or_true, true_or, and_true, true_and, not_false_iff, not_true_eq_false, true_implies, false_implies, imp_self, implies_true, forall_const, zk_lit, zk_uj_ap, zk_un_ap, zk_un_un, zk_uj_uj, Nat.reduceEqDiff, eq_self, zk_bq, Bool.true_or, Bool.false_or, Nat.le_refl, Nat.zero_add, Nat.add_zero, Nat.reduceAdd, Nat.reduceLeDiff, Nat.le_zero_eq, and_self, and_false, false_and, ite_true, ite_false, Nat.zero_le, List.length_cons, List.length_nil, Option.some.injEq, forall_eq', reduceCtorEq, c1, spe_X5_exitAt, hin, hcl, q, va_rf_s, Bool.true_eq_false, k2, spe_X8_wayFrom, hin5, hca1, hXc, hw2, n1, zk_vd hx1, gx4, gx2, gx3, zk_vd hca1, hic, kk, spe_X2_distanceTo, hdist, hsum, spe_X8_isLess, l1, zk_b0, n_succ])
              exact hg _ _ _
            · rw [l2] at hg
              (refine hG 900 _ _ _ _ ?_; simp only [r_X8_wayOn, r_X8_wayOn_1, zk_kl_none, zk_kl_int, zk_kl_ref, zk_kl_null, zk_kl_long, zk_kl_rf, zk_isr_ref, zk_isr_null, zk_isr_rf9, zk_c1_int, zk_c1_ref, zk_c1_null, zk_c1_rf, zk_psh_some, zk_psh_none, zk_nok_int, zk_nok_bool0, zk_nok_bool1, zk_nok_b, zk_fok_0, zk_fok_1, zk_fok_2, zk_fok_n, zk_fok_rf, zb_f, zb_p, zb_i, zb_a, zb_s, zk_nth_0, zk_nth_s, zk_fld_o, zk_put_o, zk_rv_eq, zk_ri_eq, zk_is_o, List.mem_cons, List.not_mem_nil, or_false, false_or, or_true, true_or, and_true, true_and, not_false_iff, not_true_eq_false, true_implies, false_implies, imp_self, implies_true, forall_const, zk_lit, zk_uj_ap, zk_un_ap, zk_un_un, zk_uj_uj, Nat.reduceEqDiff, eq_self, zk_bq, Bool.true_or, Bool.false_or, Nat.le_refl, Nat.zero_add, Nat.add_zero, Nat.reduceAdd, Nat.reduceLeDiff, Nat.le_zero_eq, and_self, and_false, false_and, ite_true, ite_false, Nat.zero_le, List.length_cons, List.length_nil, Option.some.injEq, forall_eq', reduceCtorEq, c1, spe_X5_exitAt, hin, hcl, q, va_rf_s, Bool.true_eq_false, k2, spe_X8_wayFrom, hin5, hca1, hXc, hw2, n1, zk_vd hx1, gx4, gx2, gx3, zk_vd hca1, hic, kk, spe_X2_distanceTo, hdist, hsum, spe_X8_isLess, l1, zk_b0, n_succ])
              exact hg _ _ _
          have skip : x_wf N (O c) k b = -1 → (∀ l7 l8 l9, G 6 [some (.ref (zk_ad E 7)), some (.ref (zk_ad E 1)), some (.int (nI i)), some (.ref x), some (.ref b), some (.int (wl (steep (2 * i)) L)), some (.int (nI (k + 1))), l7, l8, l9] [] ((J, N, Q, O, U), sz, 0, 0)) → G 6 [some (.ref (zk_ad E 7)), some (.ref (zk_ad E 1)), some (.int (nI i)), some (.ref x), some (.ref b), some (.int (wl (steep (2 * i)) L)), some (.int (nI k)), l7, l8, l9] [] ((J, N, Q, O, U), sz, 0, 0) := by
            intro hw2 hg
            (refine hG 900 _ _ _ _ ?_; simp only [r_X8_wayOn, r_X8_wayOn_1, zk_kl_none, zk_kl_int, zk_kl_ref, zk_kl_null, zk_kl_long, zk_kl_rf, zk_isr_ref, zk_isr_null, zk_isr_rf9, zk_c1_int, zk_c1_ref, zk_c1_null, zk_c1_rf, zk_psh_some, zk_psh_none, zk_nok_int, zk_nok_bool0, zk_nok_bool1, zk_nok_b, zk_fok_0, zk_fok_1, zk_fok_2, zk_fok_n, zk_fok_rf, zb_f, zb_p, zb_i, zb_a, zb_s, zk_nth_0, zk_nth_s, zk_fld_o, zk_put_o, zk_rv_eq, zk_ri_eq, zk_is_o, List.mem_cons, List.not_mem_nil, or_false, false_or, or_true, true_or, and_true, true_and, not_false_iff, not_true_eq_false, true_implies, false_implies, imp_self, implies_true, forall_const, zk_lit, zk_uj_ap, zk_un_ap, zk_un_un, zk_uj_uj, Nat.reduceEqDiff, eq_self, zk_bq, Bool.true_or, Bool.false_or, Nat.le_refl, Nat.zero_add, Nat.add_zero, Nat.reduceAdd, Nat.reduceLeDiff, Nat.le_zero_eq, and_self, and_false, false_and, ite_true, ite_false, Nat.zero_le, List.length_cons, List.length_nil, Option.some.injEq, forall_eq', reduceCtorEq, c1, spe_X5_exitAt, hin, hcl, q, va_rf_s, Bool.true_eq_false, k2, spe_X8_wayFrom, hin5, hca1, hXc, hw2, n_succ])
            exact hg _ _ _
          by_cases o : eo N1 k
          · obtain ⟨f1, f2⟩ := from_yes hmi hMk o
            obtain ⟨a1, a2, a3⟩ := act_dir hmi (by omega) hMk o
            obtain ⟨r, r1, r2, r3⟩ := ends_e hmi hMk
            have r20 := r1.lt hmi
            by_cases z1 : ef N1 k = nI j
            · rw [if_pos z1] at hwf
              have zz : m_from J1 N1 (2 * k + 1) ≠ nI j := by
                rw [f2]
                rcases r3 with r3 | ⟨q', b1, b2, b3⟩
                · rw [if_pos r3]; exact fun w => nI_ne2 (r := j) (by omega) w.symm
                · have b20 := b1.lt hmi
                  rw [b3, if_neg (nI_ne1 (by omega))]
                  intro w
                  rw [n_inj (by omega) (by omega)] at w
                  rw [r2, n_inj (by omega) (by omega)] at z1
                  omega
              rw [cf (2 * k + 1) (Or.inr rfl) (Or.inl zz), if_neg (by decide)] at ih2
              by_cases z3 : v (2 * k) < INF
              · have gt : g_c J1 N1 (nI j) (nI i) v (2 * k) = true := g_c_iff.mpr ⟨by rw [e1]; exact of_eq_false k2, by rw [f1]; exact z1, z3⟩
                rw [if_pos gt] at ih2
                exact go (2 * k) (Or.inl rfl) hwf z3 a1 ih2
              · have vI : v (2 * k) = INF := by have := (hwv.2.1 (2 * k)).1; omega
                rw [cf (2 * k) (Or.inl rfl) (Or.inr (Or.inl vI)), if_neg (by decide)] at ih2
                exact skip (by rw [hwf, vI]; unfold wi; rw [if_pos rfl]) ih2
            · rw [if_neg z1] at hwf
              rw [cf (2 * k) (Or.inl rfl) (Or.inl (by rw [f1]; exact z1))] at ih2
              simp only [Bool.false_eq_true, if_false, ite_false] at ih2
              by_cases z2 : et N1 k = nI j
              · rw [if_pos z2] at hwf
                have z4 : ¬ et N1 k = -1 := by rw [z2]; exact nI_ne1 (by omega)
                by_cases z3 : v (2 * k + 1) < INF
                · have gt : g_c J1 N1 (nI j) (nI i) v (2 * k + 1) = true := g_c_iff.mpr ⟨by rw [e2]; exact of_eq_false k2, by rw [f2, if_neg z4]; exact z2, z3⟩
                  rw [if_pos gt] at ih2
                  exact go (2 * k + 1) (Or.inr rfl) hwf z3 (a2 z4) ih2
                · have vI : v (2 * k + 1) = INF := by have := (hwv.2.1 (2 * k + 1)).1; omega
                  rw [cf (2 * k + 1) (Or.inr rfl) (Or.inr (Or.inl vI)), if_neg (by decide)] at ih2
                  exact skip (by rw [hwf, vI]; unfold wi; rw [if_pos rfl]) ih2
              · rw [if_neg z2] at hwf
                have zz : m_from J1 N1 (2 * k + 1) ≠ nI j := by
                  rw [f2]
                  split
                  · exact fun w => nI_ne2 (r := j) (by omega) w.symm
                  · exact z2
                rw [cf (2 * k + 1) (Or.inr rfl) (Or.inl zz), if_neg (by decide)] at ih2
                exact skip hwf ih2
          · obtain ⟨a1, a2⟩ := act_no (J := J1) (N := N1) (i := k) (fun w => o w.2)
            have v1 := hwv.2.2 _ a1
            have v2 := hwv.2.2 _ a2
            rw [cf (2 * k) (Or.inl rfl) (Or.inr (Or.inl v1)), cf (2 * k + 1) (Or.inr rfl) (Or.inr (Or.inl v2)), if_neg (by decide), if_neg (by decide)] at ih2
            refine skip ?_ ih2
            rw [hwf, v1, v2]
            unfold wi
            rw [if_pos rfl]
            split <;> (try split) <;> rfl
  have l0 := loop 50 0 none none none (by omega)
  (refine hG 900 _ _ _ _ ?_; simp only [r_X8_wayOn, r_X8_wayOn_1, zk_kl_none, zk_kl_int, zk_kl_ref, zk_kl_null, zk_kl_long, zk_kl_rf, zk_isr_ref, zk_isr_null, zk_isr_rf9, zk_c1_int, zk_c1_ref, zk_c1_null, zk_c1_rf, zk_psh_some, zk_psh_none, zk_nok_int, zk_nok_bool0, zk_nok_bool1, zk_nok_b, zk_fok_0, zk_fok_1, zk_fok_2, zk_fok_n, zk_fok_rf, zb_f, zb_p, zb_i, zb_a, zb_s, zk_nth_0, zk_nth_s, zk_fld_o, zk_put_o, zk_rv_eq, zk_ri_eq, zk_is_o, List.mem_cons, List.not_mem_nil, or_false, false_or, or_true, true_or, and_true, true_and, not_false_iff, not_true_eq_false, true_implies, false_implies, imp_self, implies_true, forall_const, zk_lit, zk_uj_ap, zk_un_ap, zk_un_un, zk_uj_uj, Nat.reduceEqDiff, eq_self, zk_bq, Bool.true_or, Bool.false_or, Nat.le_refl, Nat.zero_add, Nat.add_zero, Nat.reduceAdd, Nat.reduceLeDiff, Nat.le_zero_eq, and_self, and_false, false_and, ite_true, ite_false, Nat.zero_le, List.length_cons, List.length_nil, Option.some.injEq, forall_eq', reduceCtorEq])
  exact l0
theorem ct_X8_wayOn {l : Launch} (hl : l.stackTraces = false) (E : zk_E) : zk_C l E (zk_VT E) yX8_wayOn cX8_wayOn 10 (some (.int)) rm_X8_wayOn (sp_X8_wayOn E) := by
  refine zk_meth (M := M_X8_wayOn) (C := C_X8_wayOn E) hl (by decide +kernel) rfl (fun _ _ => rfl) (zk_VT_ok E) MO_X8_wayOn TO_X8_wayOn THo_X8_wayOn ?_ (vc_X8_wayOn E)
  exact fun p e s m args below meth c X pc n mc ms sp2 h => by
    have h2 := zk_lka_mem h
    simp only [List.mem_cons, List.not_mem_nil, or_false, Prod.mk.injEq] at h2
    rcases h2 with ⟨rfl, rfl, rfl, rfl, rfl⟩ | ⟨rfl, rfl, rfl, rfl, rfl⟩ | ⟨rfl, rfl, rfl, rfl, rfl⟩ | ⟨rfl, rfl, rfl, rfl, rfl⟩
    · exact zk_coV (idx := 33) X (ct_X5_exitAt hl E) (List.forall_mem_cons.mpr ⟨zk_wi 118 (by decide +kernel) rfl, List.forall_mem_cons.mpr ⟨zk_wi 119 (by decide +kernel) rfl, List.forall_mem_cons.mpr ⟨zk_wi 120 (by decide +kernel) rfl, List.forall_mem_cons.mpr ⟨zk_wi 3 (by decide +kernel) rfl, List.forall_mem_cons.mpr ⟨zk_wi 121 (by decide +kernel) rfl, fun _ h => absurd h List.not_mem_nil⟩⟩⟩⟩⟩) (fun ci h => by
      have h := Nat.eq_of_beq_eq_true h
      subst h
      exact ⟨_, _, rfl⟩) (by decide +kernel) ⟨by decide, by decide, by decide +kernel⟩ ⟨by decide, by decide⟩
    · exact zk_coV (idx := 64) X (ct_X8_wayFrom hl E) (List.forall_mem_cons.mpr ⟨zk_wi 130 (by decide +kernel) rfl, List.forall_mem_cons.mpr ⟨zk_wi 131 (by decide +kernel) rfl, List.forall_mem_cons.mpr ⟨zk_wi 132 (by decide +kernel) rfl, List.forall_mem_cons.mpr ⟨zk_wi 4 (by decide +kernel) rfl, List.forall_mem_cons.mpr ⟨zk_wi 133 (by decide +kernel) rfl, fun _ h => absurd h List.not_mem_nil⟩⟩⟩⟩⟩) (fun ci h => by
      have h := Nat.eq_of_beq_eq_true h
      subst h
      exact ⟨_, _, rfl⟩) (by decide +kernel) ⟨by decide, by decide, by decide +kernel⟩ ⟨by decide, by decide⟩
    · exact zk_coU (idx := 78) (x := ⟨"ClerestoryPlan$Exit", "distanceTo", "(II)I"⟩) X (ct_X2_distanceTo hl E) (List.forall_mem_cons.mpr ⟨zk_wi 134 (by decide +kernel) rfl, List.forall_mem_cons.mpr ⟨zk_wi 136 (by decide +kernel) rfl, List.forall_mem_cons.mpr ⟨zk_wi 135 (by decide +kernel) rfl, List.forall_mem_cons.mpr ⟨zk_wi 16 (by decide +kernel) rfl, List.forall_mem_cons.mpr ⟨zk_wi 139 (by decide +kernel) rfl, fun _ h => absurd h List.not_mem_nil⟩⟩⟩⟩⟩) (fun ci h => by
      rw [Bool.or_eq_true] at h
      rcases h with h | h
      · have h := Nat.eq_of_beq_eq_true h
        subst h
        exact ⟨_, _, _, rfl, zk_wi 137 (by decide +kernel) rfl⟩
      · have h := Nat.eq_of_beq_eq_true h
        subst h
        exact ⟨_, _, _, rfl, zk_wi 138 (by decide +kernel) rfl⟩) rfl (by decide +kernel) ⟨by decide, by decide, by decide +kernel⟩ ⟨by decide, by decide⟩
    · exact zk_coS (idx := 60) X (ct_X8_isLess hl E) (List.forall_mem_cons.mpr ⟨zk_wi 143 (by decide +kernel) rfl, List.forall_mem_cons.mpr ⟨zk_wi 144 (by decide +kernel) rfl, List.forall_mem_cons.mpr ⟨zk_wi 4 (by decide +kernel) rfl, List.forall_mem_cons.mpr ⟨zk_wi 145 (by decide +kernel) rfl, fun _ h => absurd h List.not_mem_nil⟩⟩⟩⟩) (by decide +kernel) ⟨by decide, by decide, by decide +kernel⟩ ⟨by decide, by decide⟩


