/-! a door that leads out -/
def sp_L_leadsOut (E : zk_E) : zk_Sp zk_S := fun av σ sz P PX => match av with
  | [.ref a, .int x] => a = zk_ad E 22 ∧ ∃ J N d, HI E sz σ J N d ∧ ((x < 0 ∨ 100 ≤ x) → P (some (.int 0)) σ sz) ∧ (∀ k, k < m_nd J → ¬ N 30 k = -2 → x = nI k → P (some (.int (zk_b (decide (N 31 k < 0))))) σ sz) ∧ (x < 0 ∨ 100 ≤ x ∨ ∃ k, k < m_nd J ∧ ¬ N 30 k = -2 ∧ x = nI k)
  | _ => False
theorem spe_L_leadsOut (E : zk_E) (a : Nat) (x : Int32) (σ : zk_S) (sz : Nat) (P : zk_P zk_S) (PX : zk_X zk_S) : sp_L_leadsOut E [.ref a, .int x] σ sz P PX = (a = zk_ad E 22 ∧ ∃ J N d, HI E sz σ J N d ∧ ((x < 0 ∨ 100 ≤ x) → P (some (.int 0)) σ sz) ∧ (∀ k, k < m_nd J → ¬ N 30 k = -2 → x = nI k → P (some (.int (zk_b (decide (N 31 k < 0))))) σ sz) ∧ (x < 0 ∨ 100 ≤ x ∨ ∃ k, k < m_nd J ∧ ¬ N 30 k = -2 ∧ x = nI k)) := propext Iff.rfl
def C_L_leadsOut (E : zk_E) : zk_Cl zk_S := zk_lka []
theorem r_L_leadsOut (E : zk_E) (P : zk_P zk_S) (PX : zk_X zk_S) (K : Nat → zk_L → List Value → zk_W zk_S → Prop) : (∀ (n : Nat) (l0 : Option Value) (y1 : Int32) (r : List Value) (σ : zk_S) (sz k c : Nat), zk_run E (zk_VT E) M_L_leadsOut (C_L_leadsOut E) P PX K (n + 1) 0 [l0, some (.int y1)] r (σ, sz, k, c) = zk_run E (zk_VT E) M_L_leadsOut (C_L_leadsOut E) P PX K n 1 [l0, some (.int y1)] (.int y1 :: r) (σ, sz, k, c)) ∧
  (∀ (n : Nat) (l0 l1 : Option Value) (x : Int32) (r : List Value) (σ : zk_S) (sz k c : Nat), zk_run E (zk_VT E) M_L_leadsOut (C_L_leadsOut E) P PX K (n + 1) 1 [l0, l1] (.int x :: r) (σ, sz, k, c) = ((x < 0 → zk_run E (zk_VT E) M_L_leadsOut (C_L_leadsOut E) P PX K n 25 [l0, l1] r (σ, sz, k, c)) ∧ (¬ (x < 0) → zk_run E (zk_VT E) M_L_leadsOut (C_L_leadsOut E) P PX K n 4 [l0, l1] r (σ, sz, k, c)))) ∧
  (∀ (n : Nat) (l0 : Option Value) (y1 : Int32) (r : List Value) (σ : zk_S) (sz k c : Nat), zk_run E (zk_VT E) M_L_leadsOut (C_L_leadsOut E) P PX K (n + 1) 4 [l0, some (.int y1)] r (σ, sz, k, c) = zk_run E (zk_VT E) M_L_leadsOut (C_L_leadsOut E) P PX K n 5 [l0, some (.int y1)] (.int y1 :: r) (σ, sz, k, c)) ∧
  (∀ (n : Nat) (l0 l1 : Option Value)  (r : List Value) (σ : zk_S) (sz k c : Nat), zk_run E (zk_VT E) M_L_leadsOut (C_L_leadsOut E) P PX K (n + 1) 5 [l0, l1] r (σ, sz, k, c) = zk_run E (zk_VT E) M_L_leadsOut (C_L_leadsOut E) P PX K n 7 [l0, l1] (.int (100) :: r) (σ, sz, k, c)) ∧
  (∀ (n : Nat) (l0 l1 : Option Value) (x y : Int32) (r : List Value) (σ : zk_S) (sz k c : Nat), zk_run E (zk_VT E) M_L_leadsOut (C_L_leadsOut E) P PX K (n + 1) 7 [l0, l1] (.int y :: .int x :: r) (σ, sz, k, c) = ((y ≤ x → zk_run E (zk_VT E) M_L_leadsOut (C_L_leadsOut E) P PX K n 25 [l0, l1] r (σ, sz, k, c)) ∧ (¬ (y ≤ x) → zk_run E (zk_VT E) M_L_leadsOut (C_L_leadsOut E) P PX K n 10 [l0, l1] r (σ, sz, k, c)))) ∧
  (∀ (n : Nat) (l1 : Option Value) (y0 : Value) (r : List Value) (σ : zk_S) (sz k c : Nat), zk_run E (zk_VT E) M_L_leadsOut (C_L_leadsOut E) P PX K (n + 1) 10 [some y0, l1] r (σ, sz, k, c) = (zk_isr y0 ∧ zk_run E (zk_VT E) M_L_leadsOut (C_L_leadsOut E) P PX K n 11 [some y0, l1] (y0 :: r) (σ, sz, k, c))) ∧
  (∀ (n : Nat) (l0 l1 : Option Value) (a : Nat) (r : List Value) (σ : zk_S) (sz k c : Nat), zk_run E (zk_VT E) M_L_leadsOut (C_L_leadsOut E) P PX K (n + 1) 11 [l0, l1] (.ref a :: r) (σ, sz, k, c) = zk_fld (zk_view E σ a) [10] 6 (fun v => zk_run E (zk_VT E) M_L_leadsOut (C_L_leadsOut E) P PX K n 14 [l0, l1] (v :: r) (σ, sz, k, c))) ∧
  (∀ (n : Nat) (l0 : Option Value) (y1 : Int32) (r : List Value) (σ : zk_S) (sz k c : Nat), zk_run E (zk_VT E) M_L_leadsOut (C_L_leadsOut E) P PX K (n + 1) 14 [l0, some (.int y1)] r (σ, sz, k, c) = zk_run E (zk_VT E) M_L_leadsOut (C_L_leadsOut E) P PX K n 15 [l0, some (.int y1)] (.int y1 :: r) (σ, sz, k, c)) ∧
  (∀ (n : Nat) (l0 l1 : Option Value) (a : Nat) (i : Int32) (r : List Value) (σ : zk_S) (sz k c : Nat), zk_run E (zk_VT E) M_L_leadsOut (C_L_leadsOut E) P PX K (n + 1) 15 [l0, l1] (.int i :: .ref a :: r) (σ, sz, k, c) = zk_qld (zk_view E σ a) i [zk_ar E 3, zk_ar E 4, zk_ar E 5, zk_ar E 6, zk_ar E 7] (fun x => (x = none → zk_run E (zk_VT E) M_L_leadsOut (C_L_leadsOut E) P PX K n 16 [l0, l1] (.null :: r) (σ, sz, k, c)) ∧ ∀ b, x = some b → zk_run E (zk_VT E) M_L_leadsOut (C_L_leadsOut E) P PX K n 16 [l0, l1] (.ref b :: r) (σ, sz, k, c))) ∧
  (∀ (n : Nat) (l0 l1 : Option Value)  (r : List Value) (σ : zk_S) (sz k c : Nat), zk_run E (zk_VT E) M_L_leadsOut (C_L_leadsOut E) P PX K (n + 1) 16 [l0, l1] r (σ, sz, k, c) = zk_run E (zk_VT E) M_L_leadsOut (C_L_leadsOut E) P PX K n 17 [l0, l1] (.int (1) :: r) (σ, sz, k, c)) ∧
  (∀ (n : Nat) (l0 l1 : Option Value) (a : Nat) (i : Int32) (r : List Value) (σ : zk_S) (sz k c : Nat), zk_run E (zk_VT E) M_L_leadsOut (C_L_leadsOut E) P PX K (n + 1) 17 [l0, l1] (.int i :: .ref a :: r) (σ, sz, k, c) = zk_ild (zk_view E σ a) (zk_ar E 0) i (fun x => zk_run E (zk_VT E) M_L_leadsOut (C_L_leadsOut E) P PX K n 18 [l0, l1] (.int x :: r) (σ, sz, k, c))) ∧
  (∀ (n : Nat) (l0 l1 : Option Value) (x : Int32) (r : List Value) (σ : zk_S) (sz k c : Nat), zk_run E (zk_VT E) M_L_leadsOut (C_L_leadsOut E) P PX K (n + 1) 18 [l0, l1] (.int x :: r) (σ, sz, k, c) = ((0 ≤ x → zk_run E (zk_VT E) M_L_leadsOut (C_L_leadsOut E) P PX K n 25 [l0, l1] r (σ, sz, k, c)) ∧ (¬ (0 ≤ x) → zk_run E (zk_VT E) M_L_leadsOut (C_L_leadsOut E) P PX K n 21 [l0, l1] r (σ, sz, k, c)))) ∧
  (∀ (n : Nat) (l0 l1 : Option Value)  (r : List Value) (σ : zk_S) (sz k c : Nat), zk_run E (zk_VT E) M_L_leadsOut (C_L_leadsOut E) P PX K (n + 1) 21 [l0, l1] r (σ, sz, k, c) = zk_run E (zk_VT E) M_L_leadsOut (C_L_leadsOut E) P PX K n 22 [l0, l1] (.int (1) :: r) (σ, sz, k, c)) ∧
  (∀ (n : Nat) (l0 l1 : Option Value)  (r : List Value) (σ : zk_S) (sz k c : Nat), zk_run E (zk_VT E) M_L_leadsOut (C_L_leadsOut E) P PX K (n + 1) 22 [l0, l1] r (σ, sz, k, c) = zk_run E (zk_VT E) M_L_leadsOut (C_L_leadsOut E) P PX K n 26 [l0, l1] r (σ, sz, k, c)) ∧
  (∀ (n : Nat) (l0 l1 : Option Value)  (r : List Value) (σ : zk_S) (sz k c : Nat), zk_run E (zk_VT E) M_L_leadsOut (C_L_leadsOut E) P PX K (n + 1) 25 [l0, l1] r (σ, sz, k, c) = zk_run E (zk_VT E) M_L_leadsOut (C_L_leadsOut E) P PX K n 26 [l0, l1] (.int (0) :: r) (σ, sz, k, c)) ∧
  (∀ (n : Nat) (l0 l1 : Option Value) (x : Int32)  (σ : zk_S) (sz k c : Nat), zk_run E (zk_VT E) M_L_leadsOut (C_L_leadsOut E) P PX K (n + 1) 26 [l0, l1] [.int x] (σ, sz, k, c) = (zk_nok (some (.boolean)) x ∧ P (some (.int x)) σ sz ∧ k ≤ 0 ∧ c ≤ 0)) ∧
  (∀ (n : Nat) (l0 l1 : Option Value) (r : List Value) (w : zk_W zk_S), zk_go E (zk_VT E) M_L_leadsOut (C_L_leadsOut E) P PX K n 0 [l0, l1] r w = zk_run E (zk_VT E) M_L_leadsOut (C_L_leadsOut E) P PX K (n + 1) 0 [l0, l1] r w) := ⟨by intros; rfl, by intros; rfl, by intros; rfl, by intros; rfl, by intros; rfl, by intros; rfl, by intros; rfl, by intros; rfl, by intros; rfl, by intros; rfl, by intros; rfl, by intros; rfl, by intros; rfl, by intros; rfl, by intros; rfl, by intros; rfl, by intros; rfl⟩
set_option maxHeartbeats 16000000 in
theorem vc_L_leadsOut (E : zk_E) : zk_VC E (zk_VT E) M_L_leadsOut (C_L_leadsOut E) 2 (sp_L_leadsOut E) := by
  intro av σ sz P PX h
  obtain ⟨J, N, Q, O, U⟩ := σ
  unfold sp_L_leadsOut at h
  split at h
  case h_2 => exact h.elim
  rename_i a x
  refine ⟨Nat.le_of_ble_eq_true rfl, fun G hG => ?_⟩
  change G 0 [some (.ref a), some (.int x)] [] ((J, N, Q, O, U), sz, 0, 0)
  try dsimp only at h
  obtain ⟨rfl, J1, N1, d, hI, h1, h2, h3⟩ := h
  have flip : ∀ {a b : Int32}, ¬ a < b → b ≤ a := fun {a b} w => Int32.not_lt.mp w
  rcases h3 with h3 | h3 | ⟨k, hk, hN, rfl⟩
  · have h1 := h1 (Or.inl h3)
    (refine hG 900 _ _ _ _ ?_; simp only [r_L_leadsOut, zk_kl_none, zk_kl_int, zk_kl_ref, zk_kl_null, zk_kl_long, zk_kl_rf, zk_isr_ref, zk_isr_null, zk_isr_rf9, zk_c1_int, zk_c1_ref, zk_c1_null, zk_c1_rf, zk_psh_some, zk_psh_none, zk_nok_int, zk_nok_bool0, zk_nok_bool1, zk_nok_b, zk_fok_0, zk_fok_1, zk_fok_2, zk_fok_n, zk_fok_rf, zb_f, zb_p, zb_i, zb_a, zb_s, zk_nth_0, zk_nth_s, zk_fld_o, zk_put_o, zk_rv_eq, zk_ri_eq, zk_is_o, List.mem_cons, List.not_mem_nil, or_false, false_or, or_true, true_or, and_true, true_and, not_false_iff, not_true_eq_false, true_implies, false_implies, imp_self, implies_true, forall_const, zk_lit, zk_uj_ap, zk_un_ap, zk_un_un, zk_uj_uj, Nat.reduceEqDiff, eq_self, zk_bq, Bool.true_or, Bool.false_or, Nat.le_refl, Nat.zero_add, Nat.add_zero, Nat.reduceAdd, Nat.reduceLeDiff, Nat.le_zero_eq, and_self, and_false, false_and, ite_true, ite_false, Nat.zero_le, List.length_cons, List.length_nil, Option.some.injEq, forall_eq', reduceCtorEq, h3])
    exact h1
  · have h1 := h1 (Or.inr h3)
    by_cases h4 : x < 0
    · (refine hG 900 _ _ _ _ ?_; simp only [r_L_leadsOut, zk_kl_none, zk_kl_int, zk_kl_ref, zk_kl_null, zk_kl_long, zk_kl_rf, zk_isr_ref, zk_isr_null, zk_isr_rf9, zk_c1_int, zk_c1_ref, zk_c1_null, zk_c1_rf, zk_psh_some, zk_psh_none, zk_nok_int, zk_nok_bool0, zk_nok_bool1, zk_nok_b, zk_fok_0, zk_fok_1, zk_fok_2, zk_fok_n, zk_fok_rf, zb_f, zb_p, zb_i, zb_a, zb_s, zk_nth_0, zk_nth_s, zk_fld_o, zk_put_o, zk_rv_eq, zk_ri_eq, zk_is_o, List.mem_cons, List.not_mem_nil, or_false, false_or, or_true, true_or, and_true, true_and, not_false_iff, not_true_eq_false, true_implies, false_implies, imp_self, implies_true, forall_const, zk_lit, zk_uj_ap, zk_un_ap, zk_un_un, zk_uj_uj, Nat.reduceEqDiff, eq_self, zk_bq, Bool.true_or, Bool.false_or, Nat.le_refl, Nat.zero_add, Nat.add_zero, Nat.reduceAdd, Nat.reduceLeDiff, Nat.le_zero_eq, and_self, and_false, false_and, ite_true, ite_false, Nat.zero_le, List.length_cons, List.length_nil, Option.some.injEq, forall_eq', reduceCtorEq, h4])
      exact h1
    · (refine hG 900 _ _ _ _ ?_; simp only [r_L_leadsOut, zk_kl_none, zk_kl_int, zk_kl_ref, zk_kl_null, zk_kl_long, zk_kl_rf, zk_isr_ref, zk_isr_null, zk_isr_rf9, zk_c1_int, zk_c1_ref, zk_c1_null, zk_c1_rf, zk_psh_some, zk_psh_none, zk_nok_int, zk_nok_bool0, zk_nok_bool1, zk_nok_b, zk_fok_0, zk_fok_1, zk_fok_2, zk_fok_n, zk_fok_rf, zb_f, zb_p, zb_i, zb_a, zb_s, zk_nth_0, zk_nth_s, zk_fld_o, zk_put_o, zk_rv_eq, zk_ri_eq, zk_is_o, List.mem_cons, List.not_mem_nil, or_false, false_or, or_true, true_or, and_true, true_and, not_false_iff, not_true_eq_false, true_implies, false_implies, imp_self, implies_true, forall_const, zk_lit, zk_uj_ap, zk_un_ap, zk_un_un, zk_uj_uj, Nat.reduceEqDiff, eq_self, zk_bq, Bool.true_or, Bool.false_or, Nat.le_refl, Nat.zero_add, Nat.add_zero, Nat.reduceAdd, Nat.reduceLeDiff, Nat.le_zero_eq, and_self, and_false, false_and, ite_true, ite_false, Nat.zero_le, List.length_cons, List.length_nil, Option.some.injEq, forall_eq', reduceCtorEq, h4, h3])
      exact h1
  · have h2 := h2 k hk hN rfl
    have hmi := hI.1.1
    have hkk := hmi.1.2.1.2
    obtain ⟨b, f, hq, ha, haz, hO, hgm⟩ := hI.2.1.door hk
    have e1 := (hgm.1 hN).2.1
    have i1 : ¬ nI k < 0 := nI_nlt (b := 0) (by omega) (by omega)
    have i2 : ¬ (100 : Int32) ≤ nI k := fun w => by
      have e9 : (100 : Int32) = nI 100 := rfl
      rw [e9, nI_lei (by decide) (by omega)] at w
      omega
    have inj : vp_in (nI k) 40 := n_in (by omega) (by decide)
    have clj : (nI k).toNatClampNeg = k := n_cl (by omega)
    by_cases h5 : N1 31 k < 0
    · rw [decide_eq_true h5] at h2
      have h6 : ¬ 0 ≤ N1 31 k := fun w => Int32.not_lt.mpr w h5
      (refine hG 900 _ _ _ _ ?_; simp only [r_L_leadsOut, zk_kl_none, zk_kl_int, zk_kl_ref, zk_kl_null, zk_kl_long, zk_kl_rf, zk_isr_ref, zk_isr_null, zk_isr_rf9, zk_c1_int, zk_c1_ref, zk_c1_null, zk_c1_rf, zk_psh_some, zk_psh_none, zk_nok_int, zk_nok_bool0, zk_nok_bool1, zk_nok_b, zk_fok_0, zk_fok_1, zk_fok_2, zk_fok_n, zk_fok_rf, zb_f, zb_p, zb_i, zb_a, zb_s, zk_nth_0, zk_nth_s, zk_fld_o, zk_put_o, zk_rv_eq, zk_ri_eq, zk_is_o, List.mem_cons, List.not_mem_nil, or_false, false_or, or_true, true_or, and_true, true_and, not_false_iff, not_true_eq_false, true_implies, false_implies, imp_self, implies_true, forall_const, zk_lit, zk_uj_ap, zk_un_ap, zk_un_un, zk_uj_uj, Nat.reduceEqDiff, eq_self, zk_bq, Bool.true_or, Bool.false_or, Nat.le_refl, Nat.zero_add, Nat.add_zero, Nat.reduceAdd, Nat.reduceLeDiff, Nat.le_zero_eq, and_self, and_false, false_and, ite_true, ite_false, Nat.zero_le, List.length_cons, List.length_nil, Option.some.injEq, forall_eq', reduceCtorEq, i1, i2, h6, inj, clj, hq, zk_vd ha, hO, zk_ild_d, h_i8, h_cl, e1])
      exact h2
    · rw [decide_eq_false h5] at h2
      have h6 : 0 ≤ N1 31 k := Int32.not_lt.mp h5
      (refine hG 900 _ _ _ _ ?_; simp only [r_L_leadsOut, zk_kl_none, zk_kl_int, zk_kl_ref, zk_kl_null, zk_kl_long, zk_kl_rf, zk_isr_ref, zk_isr_null, zk_isr_rf9, zk_c1_int, zk_c1_ref, zk_c1_null, zk_c1_rf, zk_psh_some, zk_psh_none, zk_nok_int, zk_nok_bool0, zk_nok_bool1, zk_nok_b, zk_fok_0, zk_fok_1, zk_fok_2, zk_fok_n, zk_fok_rf, zb_f, zb_p, zb_i, zb_a, zb_s, zk_nth_0, zk_nth_s, zk_fld_o, zk_put_o, zk_rv_eq, zk_ri_eq, zk_is_o, List.mem_cons, List.not_mem_nil, or_false, false_or, or_true, true_or, and_true, true_and, not_false_iff, not_true_eq_false, true_implies, false_implies, imp_self, implies_true, forall_const, zk_lit, zk_uj_ap, zk_un_ap, zk_un_un, zk_uj_uj, Nat.reduceEqDiff, eq_self, zk_bq, Bool.true_or, Bool.false_or, Nat.le_refl, Nat.zero_add, Nat.add_zero, Nat.reduceAdd, Nat.reduceLeDiff, Nat.le_zero_eq, and_self, and_false, false_and, ite_true, ite_false, Nat.zero_le, List.length_cons, List.length_nil, Option.some.injEq, forall_eq', reduceCtorEq, i1, i2, h6, inj, clj, hq, zk_vd ha, hO, zk_ild_d, h_i8, h_cl, e1])
      exact h2
theorem ct_L_leadsOut {l : Launch} (hl : l.stackTraces = false) (E : zk_E) : zk_C l E (zk_VT E) yL_leadsOut cL_leadsOut 2 (some (.boolean)) rm_L_leadsOut (sp_L_leadsOut E) := by
  refine zk_meth (M := M_L_leadsOut) (C := C_L_leadsOut E) hl (by decide +kernel) rfl (fun _ _ => rfl) (zk_VT_ok E) MO_L_leadsOut TO_L_leadsOut THo_L_leadsOut ?_ (vc_L_leadsOut E)
  exact fun p e s m args below meth c X pc n mc ms sp2 h => absurd (zk_lka_mem h) List.not_mem_nil

