/-! the class: its questions of rooms and exits -/
/-- the class beside the reference's plan -/
def IC (E : zk_E) (sz : Nat) (σ : zk_S) (J N : Nat → Nat → Int32) : Prop := MI J N ∧ XR E sz σ J N (fl0 N) ∧ (σ.1 0 4 = 0 ∨ CF J N σ.1 σ.2.1)
def ZC (J N : Nat → Nat → Int32) (σ : zk_S) (sz : Nat) (v : Option Value) (P : zk_P zk_S) : Prop := ∀ J2 N2, KE σ.1 J2 σ.2.1 N2 → (J2 0 4 = 0 ∨ CF J N J2 N2) → P v (J2, N2, σ.2.2) sz
def ZX (J N : Nat → Nat → Int32) (σ : zk_S) (sz : Nat) (X : String) (PX : zk_X zk_S) : Prop := ∀ J2 N2 z2, KE σ.1 J2 σ.2.1 N2 → (J2 0 4 = 0 ∨ CF J N J2 N2) → sz ≤ z2 → PX X (J2, N2, σ.2.2) z2
theorem n_isIn {k n : Nat} (hn : n < 2 ^ 30) (h : k < n) {m : Int32} (hm : nI n - 1 = m) : m_isIn (nI k) 0 m = true := by rw [← hm]; exact m_isIn_nI hn h
section XRS
variable {E : zk_E} {sz : Nat} {J N J1 N1 : Nat → Nat → Int32} {Q : Nat → Nat → Option Nat} {O : zk_Hp} {U : zk_U} {fl : Nat → Int32}
theorem XR.noroom (h : XR E sz (J1, N1, Q, O, U) J N fl) (hms : MS J) {r : Int32} (hr : m_isRoom J N r = false) : (m_isIn r 0 19 = false) ∨ (m_isIn r 0 19 = true ∧ Q 2 r.toNatClampNeg = none) := by
  cases q : m_isIn r 0 19 with
  | false => exact Or.inl rfl
  | true =>
    right
    rw [show (19 : Int32) = nI 20 - 1 by decide] at q
    obtain ⟨k, hk, rfl⟩ := m_isIn_lt (by decide) q
    refine ⟨rfl, ?_⟩
    rw [n_cl (by omega)]
    rcases h.2.1 k hk with ⟨a, h0, -⟩ | ⟨-, h1⟩
    · rw [m_isRoom_t hms h0] at hr; cases hr
    · exact h1
theorem XR.nodoor (h : XR E sz (J1, N1, Q, O, U) J N fl) (hms : MS J) {r : Int32} (hr : m_isDoor J N r = false) : (m_isIn r 0 39 = false) ∨ (m_isIn r 0 39 = true ∧ Q 3 r.toNatClampNeg = none) := by
  cases q : m_isIn r 0 39 with
  | false => exact Or.inl rfl
  | true =>
    right
    rw [show (39 : Int32) = nI 40 - 1 by decide] at q
    obtain ⟨k, hk, rfl⟩ := m_isIn_lt (by decide) q
    refine ⟨rfl, ?_⟩
    rw [n_cl (by omega)]
    rcases h.2.2.1 k hk with ⟨a, p, h0, -⟩ | ⟨-, h1⟩
    · rw [m_isDoor_t hms h0] at hr; cases hr
    · exact h1
theorem XR.nostairs (h : XR E sz (J1, N1, Q, O, U) J N fl) (hms : MS J) {r : Int32} (hr : m_isStairs J N r = false) : (m_isIn r 0 9 = false) ∨ (m_isIn r 0 9 = true ∧ Q 5 r.toNatClampNeg = none) := by
  cases q : m_isIn r 0 9 with
  | false => exact Or.inl rfl
  | true =>
    right
    obtain ⟨k, hk, rfl⟩ := m_isIn_9 q
    refine ⟨rfl, ?_⟩
    rw [n_cl (by omega)]
    rcases h.2.2.2.2.1 k hk with ⟨a, h0, -⟩ | ⟨-, h1⟩
    · rw [m_isStairs_t hms h0] at hr; cases hr
    · exact h1
end XRS
def sp_X10_leavingOf (E : zk_E) : zk_Sp zk_S := fun av σ sz P PX => match av with
  | [.ref a, .int i] => a = zk_ad E 0 ∧ ∃ J N k, CC J N σ.2.1 ∧ k < 20 ∧ i = nI k ∧ P (some (.int (a_leav J N k))) σ sz
  | _ => False
theorem spe_X10_leavingOf (E : zk_E) (a : Nat) (i : Int32) (σ : zk_S) (sz : Nat) (P : zk_P zk_S) (PX : zk_X zk_S) : sp_X10_leavingOf E [.ref a, .int i] σ sz P PX = (a = zk_ad E 0 ∧ ∃ J N k, CC J N σ.2.1 ∧ k < 20 ∧ i = nI k ∧ P (some (.int (a_leav J N k))) σ sz) := propext Iff.rfl
def C_X10_leavingOf (E : zk_E) : zk_Cl zk_S := zk_lka []
theorem r_X10_leavingOf (E : zk_E) (P : zk_P zk_S) (PX : zk_X zk_S) (K : Nat → zk_L → List Value → zk_W zk_S → Prop) : (∀ (n : Nat) (l1 l2 : Option Value) (y0 : Value) (r : List Value) (σ : zk_S) (sz k c : Nat), zk_run E (zk_VT E) M_X10_leavingOf (C_X10_leavingOf E) P PX K (n + 1) 0 [some y0, l1, l2] r (σ, sz, k, c) = (zk_isr y0 ∧ zk_run E (zk_VT E) M_X10_leavingOf (C_X10_leavingOf E) P PX K n 1 [some y0, l1, l2] (y0 :: r) (σ, sz, k, c))) ∧
  (∀ (n : Nat) (l0 l1 l2 : Option Value) (a : Nat) (r : List Value) (σ : zk_S) (sz k c : Nat), zk_run E (zk_VT E) M_X10_leavingOf (C_X10_leavingOf E) P PX K (n + 1) 1 [l0, l1, l2] (.ref a :: r) (σ, sz, k, c) = zk_fld (zk_view E σ a) [9] 1 (fun v => zk_run E (zk_VT E) M_X10_leavingOf (C_X10_leavingOf E) P PX K n 4 [l0, l1, l2] (v :: r) (σ, sz, k, c))) ∧
  (∀ (n : Nat) (l0 l1 l2 : Option Value) (a : Nat) (r : List Value) (σ : zk_S) (sz k c : Nat), zk_run E (zk_VT E) M_X10_leavingOf (C_X10_leavingOf E) P PX K (n + 1) 4 [l0, l1, l2] (.ref a :: r) (σ, sz, k, c) = zk_fld (zk_view E σ a) [7] 3 (fun v => zk_run E (zk_VT E) M_X10_leavingOf (C_X10_leavingOf E) P PX K n 7 [l0, l1, l2] (v :: r) (σ, sz, k, c))) ∧
  (∀ (n : Nat) (l0 l2 : Option Value) (y1 : Int32) (r : List Value) (σ : zk_S) (sz k c : Nat), zk_run E (zk_VT E) M_X10_leavingOf (C_X10_leavingOf E) P PX K (n + 1) 7 [l0, some (.int y1), l2] r (σ, sz, k, c) = zk_run E (zk_VT E) M_X10_leavingOf (C_X10_leavingOf E) P PX K n 8 [l0, some (.int y1), l2] (.int y1 :: r) (σ, sz, k, c)) ∧
  (∀ (n : Nat) (l0 l1 l2 : Option Value) (a : Nat) (i : Int32) (r : List Value) (σ : zk_S) (sz k c : Nat), zk_run E (zk_VT E) M_X10_leavingOf (C_X10_leavingOf E) P PX K (n + 1) 8 [l0, l1, l2] (.int i :: .ref a :: r) (σ, sz, k, c) = zk_ild (zk_view E σ a) (zk_ar E 0) i (fun x => zk_run E (zk_VT E) M_X10_leavingOf (C_X10_leavingOf E) P PX K n 9 [l0, l1, l2] (.int x :: r) (σ, sz, k, c))) ∧
  (∀ (n : Nat) (l0 l1 l2 : Option Value) (x : Int32) (r : List Value) (σ : zk_S) (sz k c : Nat), zk_run E (zk_VT E) M_X10_leavingOf (C_X10_leavingOf E) P PX K (n + 1) 9 [l0, l1, l2] (.int x :: r) (σ, sz, k, c) = zk_run E (zk_VT E) M_X10_leavingOf (C_X10_leavingOf E) P PX K n 10 [l0, zk_kl l1, some (.int x)] r (σ, sz, k, c)) ∧
  (∀ (n : Nat) (l0 l1 : Option Value) (y2 : Int32) (r : List Value) (σ : zk_S) (sz k c : Nat), zk_run E (zk_VT E) M_X10_leavingOf (C_X10_leavingOf E) P PX K (n + 1) 10 [l0, l1, some (.int y2)] r (σ, sz, k, c) = zk_run E (zk_VT E) M_X10_leavingOf (C_X10_leavingOf E) P PX K n 11 [l0, l1, some (.int y2)] (.int y2 :: r) (σ, sz, k, c)) ∧
  (∀ (n : Nat) (l0 l1 l2 : Option Value)  (r : List Value) (σ : zk_S) (sz k c : Nat), zk_run E (zk_VT E) M_X10_leavingOf (C_X10_leavingOf E) P PX K (n + 1) 11 [l0, l1, l2] r (σ, sz, k, c) = zk_run E (zk_VT E) M_X10_leavingOf (C_X10_leavingOf E) P PX K n 13 [l0, l1, l2] (.int (40) :: r) (σ, sz, k, c)) ∧
  (∀ (n : Nat) (l0 l1 l2 : Option Value) (x y : Int32) (r : List Value) (σ : zk_S) (sz k c : Nat), zk_run E (zk_VT E) M_X10_leavingOf (C_X10_leavingOf E) P PX K (n + 1) 13 [l0, l1, l2] (.int y :: .int x :: r) (σ, sz, k, c) = ((y ≤ x → zk_run E (zk_VT E) M_X10_leavingOf (C_X10_leavingOf E) P PX K n 20 [l0, l1, l2] r (σ, sz, k, c)) ∧ (¬ (y ≤ x) → zk_run E (zk_VT E) M_X10_leavingOf (C_X10_leavingOf E) P PX K n 16 [l0, l1, l2] r (σ, sz, k, c)))) ∧
  (∀ (n : Nat) (l0 l1 : Option Value) (y2 : Int32) (r : List Value) (σ : zk_S) (sz k c : Nat), zk_run E (zk_VT E) M_X10_leavingOf (C_X10_leavingOf E) P PX K (n + 1) 16 [l0, l1, some (.int y2)] r (σ, sz, k, c) = zk_run E (zk_VT E) M_X10_leavingOf (C_X10_leavingOf E) P PX K n 17 [l0, l1, some (.int y2)] (.int y2 :: r) (σ, sz, k, c)) ∧
  (∀ (n : Nat) (l0 l1 l2 : Option Value)  (r : List Value) (σ : zk_S) (sz k c : Nat), zk_run E (zk_VT E) M_X10_leavingOf (C_X10_leavingOf E) P PX K (n + 1) 17 [l0, l1, l2] r (σ, sz, k, c) = zk_run E (zk_VT E) M_X10_leavingOf (C_X10_leavingOf E) P PX K n 27 [l0, l1, l2] r (σ, sz, k, c)) ∧
  (∀ (n : Nat) (l0 l1 : Option Value) (y2 : Int32) (r : List Value) (σ : zk_S) (sz k c : Nat), zk_run E (zk_VT E) M_X10_leavingOf (C_X10_leavingOf E) P PX K (n + 1) 20 [l0, l1, some (.int y2)] r (σ, sz, k, c) = zk_run E (zk_VT E) M_X10_leavingOf (C_X10_leavingOf E) P PX K n 21 [l0, l1, some (.int y2)] (.int y2 :: r) (σ, sz, k, c)) ∧
  (∀ (n : Nat) (l0 l1 l2 : Option Value)  (r : List Value) (σ : zk_S) (sz k c : Nat), zk_run E (zk_VT E) M_X10_leavingOf (C_X10_leavingOf E) P PX K (n + 1) 21 [l0, l1, l2] r (σ, sz, k, c) = zk_run E (zk_VT E) M_X10_leavingOf (C_X10_leavingOf E) P PX K n 23 [l0, l1, l2] (.int (40) :: r) (σ, sz, k, c)) ∧
  (∀ (n : Nat) (l0 l1 l2 : Option Value) (x y : Int32) (r : List Value) (σ : zk_S) (sz k c : Nat), zk_run E (zk_VT E) M_X10_leavingOf (C_X10_leavingOf E) P PX K (n + 1) 23 [l0, l1, l2] (.int y :: .int x :: r) (σ, sz, k, c) = zk_run E (zk_VT E) M_X10_leavingOf (C_X10_leavingOf E) P PX K n 24 [l0, l1, l2] (.int (x - y) :: r) (σ, sz, k, c)) ∧
  (∀ (n : Nat) (l0 l1 l2 : Option Value)  (r : List Value) (σ : zk_S) (sz k c : Nat), zk_run E (zk_VT E) M_X10_leavingOf (C_X10_leavingOf E) P PX K (n + 1) 24 [l0, l1, l2] r (σ, sz, k, c) = zk_run E (zk_VT E) M_X10_leavingOf (C_X10_leavingOf E) P PX K n 26 [l0, l1, l2] (.int (100) :: r) (σ, sz, k, c)) ∧
  (∀ (n : Nat) (l0 l1 l2 : Option Value) (x y : Int32) (r : List Value) (σ : zk_S) (sz k c : Nat), zk_run E (zk_VT E) M_X10_leavingOf (C_X10_leavingOf E) P PX K (n + 1) 26 [l0, l1, l2] (.int y :: .int x :: r) (σ, sz, k, c) = zk_run E (zk_VT E) M_X10_leavingOf (C_X10_leavingOf E) P PX K n 27 [l0, l1, l2] (.int (x + y) :: r) (σ, sz, k, c)) ∧
  (∀ (n : Nat) (l0 l1 l2 : Option Value) (x : Int32)  (σ : zk_S) (sz k c : Nat), zk_run E (zk_VT E) M_X10_leavingOf (C_X10_leavingOf E) P PX K (n + 1) 27 [l0, l1, l2] [.int x] (σ, sz, k, c) = (zk_nok (some (.int)) x ∧ P (some (.int x)) σ sz ∧ k ≤ 0 ∧ c ≤ 0)) ∧
  (∀ (n : Nat) (l0 l1 l2 : Option Value) (r : List Value) (w : zk_W zk_S), zk_go E (zk_VT E) M_X10_leavingOf (C_X10_leavingOf E) P PX K n 0 [l0, l1, l2] r w = zk_run E (zk_VT E) M_X10_leavingOf (C_X10_leavingOf E) P PX K (n + 1) 0 [l0, l1, l2] r w) := ⟨by intros; rfl, by intros; rfl, by intros; rfl, by intros; rfl, by intros; rfl, by intros; rfl, by intros; rfl, by intros; rfl, by intros; rfl, by intros; rfl, by intros; rfl, by intros; rfl, by intros; rfl, by intros; rfl, by intros; rfl, by intros; rfl, by intros; rfl, by intros; rfl⟩
theorem vc_X10_leavingOf (E : zk_E) : zk_VC E (zk_VT E) M_X10_leavingOf (C_X10_leavingOf E) 3 (sp_X10_leavingOf E) := by
  intro av σ sz P PX h
  obtain ⟨J, N, Q, O, U⟩ := σ
  unfold sp_X10_leavingOf at h
  split at h
  case h_2 => exact h.elim
  rename_i a0 i
  obtain ⟨rfl, h⟩ := h
  refine ⟨Nat.le_of_ble_eq_true rfl, fun G hG => ?_⟩
  change G 0 [some (.ref (zk_ad E 0)), some (.int i), none] [] ((J, N, Q, O, U), sz, 0, 0)
  try dsimp only at h
  obtain ⟨J1, N1, k, hcc, hk, rfl, h⟩ := h
  have hin : vp_in (nI k) 20 := n_in hk (by decide)
  have hcl : (nI k).toNatClampNeg = k := n_cl (by omega)
  have h11 : N 11 k = bex (lea J1 N1 k) := (hcc.2.2 k hk).1
  have hl := lea_le J1 N1 k
  unfold a_leav at h
  unfold bex at h11
  by_cases z : lea J1 N1 k = 100
  · rw [if_pos z] at h h11
    have c1 : (-1 : Int32) < 40 := by decide
    have c2 : ¬ (40 : Int32) ≤ -1 := by decide
    (refine hG 900 _ _ _ _ ?_; simp only [r_X10_leavingOf, zk_kl_none, zk_kl_int, zk_kl_ref, zk_kl_null, zk_kl_long, zk_kl_rf, zk_isr_ref, zk_isr_null, zk_isr_rf9, zk_c1_int, zk_c1_ref, zk_c1_null, zk_c1_rf, zk_psh_some, zk_psh_none, zk_nok_int, zk_nok_bool0, zk_nok_bool1, zk_nok_b, zk_fok_0, zk_fok_1, zk_fok_2, zk_fok_n, zk_fok_rf, zb_f, zb_p, zb_i, zb_a, zb_s, zk_nth_0, zk_nth_s, zk_fld_o, zk_put_o, zk_rv_eq, zk_ri_eq, zk_is_o, List.mem_cons, List.not_mem_nil, or_false, false_or, or_true, true_or, and_true, true_and, not_false_iff, not_true_eq_false, true_implies, false_implies, imp_self, implies_true, forall_const, zk_lit, zk_uj_ap, zk_un_ap, zk_un_un, zk_uj_uj, Nat.reduceEqDiff, eq_self, zk_bq, Bool.true_or, Bool.false_or, Nat.le_refl, Nat.zero_add, Nat.add_zero, Nat.reduceAdd, Nat.reduceLeDiff, Nat.le_zero_eq, and_self, and_false, false_and, ite_true, ite_false, Nat.zero_le, List.length_cons, List.length_nil, Option.some.injEq, forall_eq', reduceCtorEq, hin, hcl, h11, c1, c2])
    exact h
  · rw [if_neg z] at h h11
    by_cases k40 : lea J1 N1 k / 2 < 40
    · rw [if_pos k40] at h
      have c2 : ¬ (40 : Int32) ≤ nI (lea J1 N1 k / 2) := (nI_ge (b := 40) k40 (by decide) : ¬ nI 40 ≤ _)
      (refine hG 900 _ _ _ _ ?_; simp only [r_X10_leavingOf, zk_kl_none, zk_kl_int, zk_kl_ref, zk_kl_null, zk_kl_long, zk_kl_rf, zk_isr_ref, zk_isr_null, zk_isr_rf9, zk_c1_int, zk_c1_ref, zk_c1_null, zk_c1_rf, zk_psh_some, zk_psh_none, zk_nok_int, zk_nok_bool0, zk_nok_bool1, zk_nok_b, zk_fok_0, zk_fok_1, zk_fok_2, zk_fok_n, zk_fok_rf, zb_f, zb_p, zb_i, zb_a, zb_s, zk_nth_0, zk_nth_s, zk_fld_o, zk_put_o, zk_rv_eq, zk_ri_eq, zk_is_o, List.mem_cons, List.not_mem_nil, or_false, false_or, or_true, true_or, and_true, true_and, not_false_iff, not_true_eq_false, true_implies, false_implies, imp_self, implies_true, forall_const, zk_lit, zk_uj_ap, zk_un_ap, zk_un_un, zk_uj_uj, Nat.reduceEqDiff, eq_self, zk_bq, Bool.true_or, Bool.false_or, Nat.le_refl, Nat.zero_add, Nat.add_zero, Nat.reduceAdd, Nat.reduceLeDiff, Nat.le_zero_eq, and_self, and_false, false_and, ite_true, ite_false, Nat.zero_le, List.length_cons, List.length_nil, Option.some.injEq, forall_eq', reduceCtorEq, hin, hcl, h11, c2])
      exact h
    · rw [if_neg k40] at h
      have c2 : (40 : Int32) ≤ nI (lea J1 N1 k / 2) := (nI_le (a := 40) (by omega) (by omega) : nI 40 ≤ _)
      have e1 : nI (lea J1 N1 k / 2) - 40 + 100 = nI (60 + lea J1 N1 k / 2) := by
        rw [show (40 : Int32) = nI 40 from rfl, n_sub (by omega), show (100 : Int32) = nI 100 from rfl, n_add]
        congr 1
        omega
      (refine hG 900 _ _ _ _ ?_; simp only [r_X10_leavingOf, zk_kl_none, zk_kl_int, zk_kl_ref, zk_kl_null, zk_kl_long, zk_kl_rf, zk_isr_ref, zk_isr_null, zk_isr_rf9, zk_c1_int, zk_c1_ref, zk_c1_null, zk_c1_rf, zk_psh_some, zk_psh_none, zk_nok_int, zk_nok_bool0, zk_nok_bool1, zk_nok_b, zk_fok_0, zk_fok_1, zk_fok_2, zk_fok_n, zk_fok_rf, zb_f, zb_p, zb_i, zb_a, zb_s, zk_nth_0, zk_nth_s, zk_fld_o, zk_put_o, zk_rv_eq, zk_ri_eq, zk_is_o, List.mem_cons, List.not_mem_nil, or_false, false_or, or_true, true_or, and_true, true_and, not_false_iff, not_true_eq_false, true_implies, false_implies, imp_self, implies_true, forall_const, zk_lit, zk_uj_ap, zk_un_ap, zk_un_un, zk_uj_uj, Nat.reduceEqDiff, eq_self, zk_bq, Bool.true_or, Bool.false_or, Nat.le_refl, Nat.zero_add, Nat.add_zero, Nat.reduceAdd, Nat.reduceLeDiff, Nat.le_zero_eq, and_self, and_false, false_and, ite_true, ite_false, Nat.zero_le, List.length_cons, List.length_nil, Option.some.injEq, forall_eq', reduceCtorEq, hin, hcl, h11, c2, e1])
      exact h
theorem ct_X10_leavingOf {l : Launch} (hl : l.stackTraces = false) (E : zk_E) : zk_C l E (zk_VT E) yX10_leavingOf cX10_leavingOf 3 (some (.int)) rm_X10_leavingOf (sp_X10_leavingOf E) := by
  refine zk_meth (M := M_X10_leavingOf) (C := C_X10_leavingOf E) hl (by decide +kernel) rfl (fun _ _ => rfl) (zk_VT_ok E) MO_X10_leavingOf TO_X10_leavingOf THo_X10_leavingOf ?_ (vc_X10_leavingOf E)
  exact fun p e s m args below meth c X pc n mc ms sp2 h => absurd (zk_lka_mem h) List.not_mem_nil
def sp_X10_isLost (E : zk_E) : zk_Sp zk_S := fun av σ sz P PX => match av with
  | [.ref a, .int r] => a = zk_ad E 0 ∧ ∃ J N, IC E sz σ J N ∧ RD J N r (fun j => ZC J N σ sz (some (.int (zk_b (a_isLost J N j)))) P) (ZX J N σ sz "java/lang/IndexOutOfBoundsException" PX)
  | _ => False
theorem spe_X10_isLost (E : zk_E) (a : Nat) (r : Int32) (σ : zk_S) (sz : Nat) (P : zk_P zk_S) (PX : zk_X zk_S) : sp_X10_isLost E [.ref a, .int r] σ sz P PX = (a = zk_ad E 0 ∧ ∃ J N, IC E sz σ J N ∧ RD J N r (fun j => ZC J N σ sz (some (.int (zk_b (a_isLost J N j)))) P) (ZX J N σ sz "java/lang/IndexOutOfBoundsException" PX)) := propext Iff.rfl
def C_X10_isLost (E : zk_E) : zk_Cl zk_S := zk_lka [(2, 2, 1, 6, zk_rv (zk_VT E) (fun ci => Nat.beq ci 9) (sp_X10_roomThere E)), (7, 1, 0, 0, zk_rv (zk_VT E) (fun ci => Nat.beq ci 9) (sp_X10_reckon E))]
theorem r_X10_isLost (E : zk_E) (P : zk_P zk_S) (PX : zk_X zk_S) (K : Nat → zk_L → List Value → zk_W zk_S → Prop) : (∀ (n : Nat) (l1 l2 : Option Value) (y0 : Value) (r : List Value) (σ : zk_S) (sz k c : Nat), zk_run E (zk_VT E) M_X10_isLost (C_X10_isLost E) P PX K (n + 1) 0 [some y0, l1, l2] r (σ, sz, k, c) = (zk_isr y0 ∧ zk_run E (zk_VT E) M_X10_isLost (C_X10_isLost E) P PX K n 1 [some y0, l1, l2] (y0 :: r) (σ, sz, k, c))) ∧
  (∀ (n : Nat) (l0 l2 : Option Value) (y1 : Int32) (r : List Value) (σ : zk_S) (sz k c : Nat), zk_run E (zk_VT E) M_X10_isLost (C_X10_isLost E) P PX K (n + 1) 1 [l0, some (.int y1), l2] r (σ, sz, k, c) = zk_run E (zk_VT E) M_X10_isLost (C_X10_isLost E) P PX K n 2 [l0, some (.int y1), l2] (.int y1 :: r) (σ, sz, k, c)) ∧
  (∀ (n : Nat) (l0 l1 l2 : Option Value) (v0 : Value) (v1 : Value)  (σ : zk_S) (sz k c : Nat), zk_run E (zk_VT E) M_X10_isLost (C_X10_isLost E) P PX K (n + 1) 2 [l0, l1, l2] [v0, v1] (σ, sz, k, c) = (k + 1 ≤ 1 ∧ c + 6 ≤ 6 ∧ (zk_rv (zk_VT E) (fun ci => Nat.beq ci 9) (sp_X10_roomThere E)) [v1, v0] σ sz (fun v s2 z2 => zk_run E (zk_VT E) M_X10_isLost (C_X10_isLost E) P PX K n 5 [l0, l1, l2] (zk_psh v []) (s2, z2, k + 1, c + 6)) (fun X s2 z2 => PX X s2 z2))) ∧
  (∀ (n : Nat) (l0 l1 l2 : Option Value) (x : Value) (r : List Value) (σ : zk_S) (sz k c : Nat), zk_run E (zk_VT E) M_X10_isLost (C_X10_isLost E) P PX K (n + 1) 5 [l0, l1, l2] (x :: r) (σ, sz, k, c) = (zk_isr x ∧ zk_run E (zk_VT E) M_X10_isLost (C_X10_isLost E) P PX K n 6 [l0, zk_kl l1, some (x)] r (σ, sz, k, c))) ∧
  (∀ (n : Nat) (l1 l2 : Option Value) (y0 : Value) (r : List Value) (σ : zk_S) (sz k c : Nat), zk_run E (zk_VT E) M_X10_isLost (C_X10_isLost E) P PX K (n + 1) 6 [some y0, l1, l2] r (σ, sz, k, c) = (zk_isr y0 ∧ zk_run E (zk_VT E) M_X10_isLost (C_X10_isLost E) P PX K n 7 [some y0, l1, l2] (y0 :: r) (σ, sz, k, c))) ∧
  (∀ (n : Nat) (l0 l1 l2 : Option Value) (v0 : Value)  (σ : zk_S) (sz k c : Nat), zk_run E (zk_VT E) M_X10_isLost (C_X10_isLost E) P PX K (n + 1) 7 [l0, l1, l2] [v0] (σ, sz, k, c) = (k + 0 ≤ 1 ∧ c + 0 ≤ 6 ∧ (zk_rv (zk_VT E) (fun ci => Nat.beq ci 9) (sp_X10_reckon E)) [v0] σ sz (fun v s2 z2 => zk_run E (zk_VT E) M_X10_isLost (C_X10_isLost E) P PX K n 10 [l0, l1, l2] (zk_psh v []) (s2, z2, k + 0, c + 0)) (fun X s2 z2 => PX X s2 z2))) ∧
  (∀ (n : Nat) (l1 l2 : Option Value) (y0 : Value) (r : List Value) (σ : zk_S) (sz k c : Nat), zk_run E (zk_VT E) M_X10_isLost (C_X10_isLost E) P PX K (n + 1) 10 [some y0, l1, l2] r (σ, sz, k, c) = (zk_isr y0 ∧ zk_run E (zk_VT E) M_X10_isLost (C_X10_isLost E) P PX K n 11 [some y0, l1, l2] (y0 :: r) (σ, sz, k, c))) ∧
  (∀ (n : Nat) (l0 l1 l2 : Option Value) (a : Nat) (r : List Value) (σ : zk_S) (sz k c : Nat), zk_run E (zk_VT E) M_X10_isLost (C_X10_isLost E) P PX K (n + 1) 11 [l0, l1, l2] (.ref a :: r) (σ, sz, k, c) = zk_fld (zk_view E σ a) [9] 1 (fun v => zk_run E (zk_VT E) M_X10_isLost (C_X10_isLost E) P PX K n 14 [l0, l1, l2] (v :: r) (σ, sz, k, c))) ∧
  (∀ (n : Nat) (l0 l1 l2 : Option Value) (a : Nat) (r : List Value) (σ : zk_S) (sz k c : Nat), zk_run E (zk_VT E) M_X10_isLost (C_X10_isLost E) P PX K (n + 1) 14 [l0, l1, l2] (.ref a :: r) (σ, sz, k, c) = zk_fld (zk_view E σ a) [7] 3 (fun v => zk_run E (zk_VT E) M_X10_isLost (C_X10_isLost E) P PX K n 17 [l0, l1, l2] (v :: r) (σ, sz, k, c))) ∧
  (∀ (n : Nat) (l0 l1 : Option Value) (y2 : Value) (r : List Value) (σ : zk_S) (sz k c : Nat), zk_run E (zk_VT E) M_X10_isLost (C_X10_isLost E) P PX K (n + 1) 17 [l0, l1, some y2] r (σ, sz, k, c) = (zk_isr y2 ∧ zk_run E (zk_VT E) M_X10_isLost (C_X10_isLost E) P PX K n 18 [l0, l1, some y2] (y2 :: r) (σ, sz, k, c))) ∧
  (∀ (n : Nat) (l0 l1 l2 : Option Value) (a : Nat) (r : List Value) (σ : zk_S) (sz k c : Nat), zk_run E (zk_VT E) M_X10_isLost (C_X10_isLost E) P PX K (n + 1) 18 [l0, l1, l2] (.ref a :: r) (σ, sz, k, c) = zk_fld (zk_view E σ a) [5] 0 (fun v => zk_run E (zk_VT E) M_X10_isLost (C_X10_isLost E) P PX K n 21 [l0, l1, l2] (v :: r) (σ, sz, k, c))) ∧
  (∀ (n : Nat) (l0 l1 l2 : Option Value) (a : Nat) (i : Int32) (r : List Value) (σ : zk_S) (sz k c : Nat), zk_run E (zk_VT E) M_X10_isLost (C_X10_isLost E) P PX K (n + 1) 21 [l0, l1, l2] (.int i :: .ref a :: r) (σ, sz, k, c) = zk_ild (zk_view E σ a) (zk_ar E 0) i (fun x => zk_run E (zk_VT E) M_X10_isLost (C_X10_isLost E) P PX K n 22 [l0, l1, l2] (.int x :: r) (σ, sz, k, c))) ∧
  (∀ (n : Nat) (l0 l1 l2 : Option Value)  (r : List Value) (σ : zk_S) (sz k c : Nat), zk_run E (zk_VT E) M_X10_isLost (C_X10_isLost E) P PX K (n + 1) 22 [l0, l1, l2] r (σ, sz, k, c) = zk_run E (zk_VT E) M_X10_isLost (C_X10_isLost E) P PX K n 23 [l0, l1, l2] (.int ((-1)) :: r) (σ, sz, k, c)) ∧
  (∀ (n : Nat) (l0 l1 l2 : Option Value) (x y : Int32) (r : List Value) (σ : zk_S) (sz k c : Nat), zk_run E (zk_VT E) M_X10_isLost (C_X10_isLost E) P PX K (n + 1) 23 [l0, l1, l2] (.int y :: .int x :: r) (σ, sz, k, c) = ((¬ x = y → zk_run E (zk_VT E) M_X10_isLost (C_X10_isLost E) P PX K n 30 [l0, l1, l2] r (σ, sz, k, c)) ∧ (¬ (¬ x = y) → zk_run E (zk_VT E) M_X10_isLost (C_X10_isLost E) P PX K n 26 [l0, l1, l2] r (σ, sz, k, c)))) ∧
  (∀ (n : Nat) (l0 l1 l2 : Option Value)  (r : List Value) (σ : zk_S) (sz k c : Nat), zk_run E (zk_VT E) M_X10_isLost (C_X10_isLost E) P PX K (n + 1) 26 [l0, l1, l2] r (σ, sz, k, c) = zk_run E (zk_VT E) M_X10_isLost (C_X10_isLost E) P PX K n 27 [l0, l1, l2] (.int (1) :: r) (σ, sz, k, c)) ∧
  (∀ (n : Nat) (l0 l1 l2 : Option Value)  (r : List Value) (σ : zk_S) (sz k c : Nat), zk_run E (zk_VT E) M_X10_isLost (C_X10_isLost E) P PX K (n + 1) 27 [l0, l1, l2] r (σ, sz, k, c) = zk_run E (zk_VT E) M_X10_isLost (C_X10_isLost E) P PX K n 31 [l0, l1, l2] r (σ, sz, k, c)) ∧
  (∀ (n : Nat) (l0 l1 l2 : Option Value)  (r : List Value) (σ : zk_S) (sz k c : Nat), zk_run E (zk_VT E) M_X10_isLost (C_X10_isLost E) P PX K (n + 1) 30 [l0, l1, l2] r (σ, sz, k, c) = zk_run E (zk_VT E) M_X10_isLost (C_X10_isLost E) P PX K n 31 [l0, l1, l2] (.int (0) :: r) (σ, sz, k, c)) ∧
  (∀ (n : Nat) (l0 l1 l2 : Option Value) (x : Int32)  (σ : zk_S) (sz k c : Nat), zk_run E (zk_VT E) M_X10_isLost (C_X10_isLost E) P PX K (n + 1) 31 [l0, l1, l2] [.int x] (σ, sz, k, c) = (zk_nok (some (.boolean)) x ∧ P (some (.int x)) σ sz ∧ k ≤ 1 ∧ c ≤ 6)) ∧
  (∀ (n : Nat) (l0 l1 l2 : Option Value) (r : List Value) (w : zk_W zk_S), zk_go E (zk_VT E) M_X10_isLost (C_X10_isLost E) P PX K n 0 [l0, l1, l2] r w = zk_run E (zk_VT E) M_X10_isLost (C_X10_isLost E) P PX K (n + 1) 0 [l0, l1, l2] r w) := ⟨by intros; rfl, by intros; rfl, by intros; rfl, by intros; rfl, by intros; rfl, by intros; rfl, by intros; rfl, by intros; rfl, by intros; rfl, by intros; rfl, by intros; rfl, by intros; rfl, by intros; rfl, by intros; rfl, by intros; rfl, by intros; rfl, by intros; rfl, by intros; rfl, by intros; rfl⟩
theorem vc_X10_isLost (E : zk_E) : zk_VC E (zk_VT E) M_X10_isLost (C_X10_isLost E) 3 (sp_X10_isLost E) := by
  intro av σ sz P PX h
  obtain ⟨J, N, Q, O, U⟩ := σ
  unfold sp_X10_isLost at h
  split at h
  case h_2 => exact h.elim
  rename_i a0 r
  obtain ⟨rfl, h⟩ := h
  refine ⟨Nat.le_of_ble_eq_true rfl, fun G hG => ?_⟩
  change G 0 [some (.ref (zk_ad E 0)), some (.int r), none] [] ((J, N, Q, O, U), sz, 0, 0)
  try dsimp only at h
  obtain ⟨J1, N1, ⟨hmi, hxr, hrk⟩, h⟩ := h
  rcases h with ⟨j, hj, rfl, h⟩ | ⟨hr, h⟩
  · have hj0 := hj
    obtain ⟨b, hb, hbo, hOb⟩ := hxr.2.1.room hmi hj
    have hb : Q 2 j = some b := hb
    have hOb : O b = some (xrm N1 j) := hOb
    have hb1 := hbo.1
    have hj20 := hj.lt hmi
    have in19 : m_isIn (nI j) 0 19 = true := n_isIn (by decide) hj20 (by decide)
    have hin : vp_in (nI j) 20 := n_in hj20 (by decide)
    have hcl : (nI j).toNatClampNeg = j := n_cl (by omega)
    have g0 : ∀ F : Value → Prop, zk_fld (O b) [5] 0 F = F (.int (nI j)) := fun F => by rw [hOb]; simp [zk_fld_o, xrm, cR, zk_nth]
    (refine hG 900 _ _ _ _ ?_; simp only [r_X10_isLost, zk_kl_none, zk_kl_int, zk_kl_ref, zk_kl_null, zk_kl_long, zk_kl_rf, zk_isr_ref, zk_isr_null, zk_isr_rf9, zk_c1_int, zk_c1_ref, zk_c1_null, zk_c1_rf, zk_psh_some, zk_psh_none, zk_nok_int, zk_nok_bool0, zk_nok_bool1, zk_nok_b, zk_fok_0, zk_fok_1, zk_fok_2, zk_fok_n, zk_fok_rf, zb_f, zb_p, zb_i, zb_a, zb_s, zk_nth_0, zk_nth_s, zk_fld_o, zk_put_o, zk_rv_eq, zk_ri_eq, zk_is_o, List.mem_cons, List.not_mem_nil, or_false, false_or, or_true, true_or, and_true, true_and, not_false_iff, not_true_eq_false, true_implies, false_implies, imp_self, implies_true, forall_const, zk_lit, zk_uj_ap, zk_un_ap, zk_un_un, zk_uj_uj, Nat.reduceEqDiff, eq_self, zk_bq, Bool.true_or, Bool.false_or, Nat.le_refl, Nat.zero_add, Nat.add_zero, Nat.reduceAdd, Nat.reduceLeDiff, Nat.le_zero_eq, and_self, and_false, false_and, ite_true, ite_false, Nat.zero_le, List.length_cons, List.length_nil, Option.some.injEq, forall_eq', reduceCtorEq, spe_X10_roomThere, in19, hcl, hb, Bool.true_eq_false, zk_vd hb1, g0, spe_X10_reckon])
    refine ⟨J1, N1, fl0 N1, hmi, hxr, hrk, fun J2 N2 hke hcf => ?_⟩
    have h := h J2 N2 hke (Or.inr hcf)
    obtain ⟨h11, h12, h13, h14⟩ := hcf.2.1.2.2 j hj20
    have hl := lea_le J1 N1 j
    unfold a_isLost at h
    unfold bex at h11
    by_cases z : lea J1 N1 j = 100
    · rw [decide_eq_true z] at h
      rw [if_pos z] at h11
      simp only [r_X10_isLost, zk_kl_none, zk_kl_int, zk_kl_ref, zk_kl_null, zk_kl_long, zk_kl_rf, zk_isr_ref, zk_isr_null, zk_isr_rf9, zk_c1_int, zk_c1_ref, zk_c1_null, zk_c1_rf, zk_psh_some, zk_psh_none, zk_nok_int, zk_nok_bool0, zk_nok_bool1, zk_nok_b, zk_fok_0, zk_fok_1, zk_fok_2, zk_fok_n, zk_fok_rf, zb_f, zb_p, zb_i, zb_a, zb_s, zk_nth_0, zk_nth_s, zk_fld_o, zk_put_o, zk_rv_eq, zk_ri_eq, zk_is_o, List.mem_cons, List.not_mem_nil, or_false, false_or, or_true, true_or, and_true, true_and, not_false_iff, not_true_eq_false, true_implies, false_implies, imp_self, implies_true, forall_const, zk_lit, zk_uj_ap, zk_un_ap, zk_un_un, zk_uj_uj, Nat.reduceEqDiff, eq_self, zk_bq, Bool.true_or, Bool.false_or, Nat.le_refl, Nat.zero_add, Nat.add_zero, Nat.reduceAdd, Nat.reduceLeDiff, Nat.le_zero_eq, and_self, and_false, false_and, ite_true, ite_false, Nat.zero_le, List.length_cons, List.length_nil, Option.some.injEq, forall_eq', reduceCtorEq, zk_vd hb1, g0, hin, hcl, h11]
      exact h
    · rw [decide_eq_false z] at h
      rw [if_neg z] at h11
      have c1 := nI_ne1 (r := lea J1 N1 j / 2) (by omega)
      simp only [r_X10_isLost, zk_kl_none, zk_kl_int, zk_kl_ref, zk_kl_null, zk_kl_long, zk_kl_rf, zk_isr_ref, zk_isr_null, zk_isr_rf9, zk_c1_int, zk_c1_ref, zk_c1_null, zk_c1_rf, zk_psh_some, zk_psh_none, zk_nok_int, zk_nok_bool0, zk_nok_bool1, zk_nok_b, zk_fok_0, zk_fok_1, zk_fok_2, zk_fok_n, zk_fok_rf, zb_f, zb_p, zb_i, zb_a, zb_s, zk_nth_0, zk_nth_s, zk_fld_o, zk_put_o, zk_rv_eq, zk_ri_eq, zk_is_o, List.mem_cons, List.not_mem_nil, or_false, false_or, or_true, true_or, and_true, true_and, not_false_iff, not_true_eq_false, true_implies, false_implies, imp_self, implies_true, forall_const, zk_lit, zk_uj_ap, zk_un_ap, zk_un_un, zk_uj_uj, Nat.reduceEqDiff, eq_self, zk_bq, Bool.true_or, Bool.false_or, Nat.le_refl, Nat.zero_add, Nat.add_zero, Nat.reduceAdd, Nat.reduceLeDiff, Nat.le_zero_eq, and_self, and_false, false_and, ite_true, ite_false, Nat.zero_le, List.length_cons, List.length_nil, Option.some.injEq, forall_eq', reduceCtorEq, zk_vd hb1, g0, hin, hcl, h11, c1]
      exact h
  · rcases hxr.noroom hmi.1 hr with q | ⟨q, q2⟩
    · (refine hG 900 _ _ _ _ ?_; simp only [r_X10_isLost, zk_kl_none, zk_kl_int, zk_kl_ref, zk_kl_null, zk_kl_long, zk_kl_rf, zk_isr_ref, zk_isr_null, zk_isr_rf9, zk_c1_int, zk_c1_ref, zk_c1_null, zk_c1_rf, zk_psh_some, zk_psh_none, zk_nok_int, zk_nok_bool0, zk_nok_bool1, zk_nok_b, zk_fok_0, zk_fok_1, zk_fok_2, zk_fok_n, zk_fok_rf, zb_f, zb_p, zb_i, zb_a, zb_s, zk_nth_0, zk_nth_s, zk_fld_o, zk_put_o, zk_rv_eq, zk_ri_eq, zk_is_o, List.mem_cons, List.not_mem_nil, or_false, false_or, or_true, true_or, and_true, true_and, not_false_iff, not_true_eq_false, true_implies, false_implies, imp_self, implies_true, forall_const, zk_lit, zk_uj_ap, zk_un_ap, zk_un_un, zk_uj_uj, Nat.reduceEqDiff, eq_self, zk_bq, Bool.true_or, Bool.false_or, Nat.le_refl, Nat.zero_add, Nat.add_zero, Nat.reduceAdd, Nat.reduceLeDiff, Nat.le_zero_eq, and_self, and_false, false_and, ite_true, ite_false, Nat.zero_le, List.length_cons, List.length_nil, Option.some.injEq, forall_eq', reduceCtorEq, spe_X10_roomThere, q, Bool.false_eq_true])
      exact fun z2 hz => h J N z2 (KE.refl J N) hrk hz
    · (refine hG 900 _ _ _ _ ?_; simp only [r_X10_isLost, zk_kl_none, zk_kl_int, zk_kl_ref, zk_kl_null, zk_kl_long, zk_kl_rf, zk_isr_ref, zk_isr_null, zk_isr_rf9, zk_c1_int, zk_c1_ref, zk_c1_null, zk_c1_rf, zk_psh_some, zk_psh_none, zk_nok_int, zk_nok_bool0, zk_nok_bool1, zk_nok_b, zk_fok_0, zk_fok_1, zk_fok_2, zk_fok_n, zk_fok_rf, zb_f, zb_p, zb_i, zb_a, zb_s, zk_nth_0, zk_nth_s, zk_fld_o, zk_put_o, zk_rv_eq, zk_ri_eq, zk_is_o, List.mem_cons, List.not_mem_nil, or_false, false_or, or_true, true_or, and_true, true_and, not_false_iff, not_true_eq_false, true_implies, false_implies, imp_self, implies_true, forall_const, zk_lit, zk_uj_ap, zk_un_ap, zk_un_un, zk_uj_uj, Nat.reduceEqDiff, eq_self, zk_bq, Bool.true_or, Bool.false_or, Nat.le_refl, Nat.zero_add, Nat.add_zero, Nat.reduceAdd, Nat.reduceLeDiff, Nat.le_zero_eq, and_self, and_false, false_and, ite_true, ite_false, Nat.zero_le, List.length_cons, List.length_nil, Option.some.injEq, forall_eq', reduceCtorEq, spe_X10_roomThere, q, q2])
      exact fun z2 hz => h J N z2 (KE.refl J N) hrk hz
theorem ct_X10_isLost {l : Launch} (hl : l.stackTraces = false) (E : zk_E) : zk_C l E (zk_VT E) yX10_isLost cX10_isLost 3 (some (.boolean)) rm_X10_isLost (sp_X10_isLost E) := by
  refine zk_meth (M := M_X10_isLost) (C := C_X10_isLost E) hl (by decide +kernel) rfl (fun _ _ => rfl) (zk_VT_ok E) MO_X10_isLost TO_X10_isLost THo_X10_isLost ?_ (vc_X10_isLost E)
  exact fun p e s m args below meth c X pc n mc ms sp2 h => by
    have h2 := zk_lka_mem h
    simp only [List.mem_cons, List.not_mem_nil, or_false, Prod.mk.injEq] at h2
    rcases h2 with ⟨rfl, rfl, rfl, rfl, rfl⟩ | ⟨rfl, rfl, rfl, rfl, rfl⟩
    · exact zk_coV (idx := 76) X (ct_X10_roomThere hl E) (List.forall_mem_cons.mpr ⟨zk_wi 105 (by decide +kernel) rfl, List.forall_mem_cons.mpr ⟨zk_wi 107 (by decide +kernel) rfl, List.forall_mem_cons.mpr ⟨zk_wp 2 (by decide +kernel) rfl, List.forall_mem_cons.mpr ⟨zk_wi 2 (by decide +kernel) rfl, List.forall_mem_cons.mpr ⟨zk_wi 108 (by decide +kernel) rfl, fun _ h => absurd h List.not_mem_nil⟩⟩⟩⟩⟩) (fun ci h => by
      have h := Nat.eq_of_beq_eq_true h
      subst h
      exact ⟨_, _, rfl⟩) (by decide +kernel) ⟨by decide, by decide, by decide +kernel⟩ ⟨by decide, by decide⟩
    · exact zk_coV (idx := 197) X (ct_X10_reckon hl E) (List.forall_mem_cons.mpr ⟨zk_wi 110 (by decide +kernel) rfl, List.forall_mem_cons.mpr ⟨zk_wi 112 (by decide +kernel) rfl, List.forall_mem_cons.mpr ⟨zk_wp 3 (by decide +kernel) rfl, List.forall_mem_cons.mpr ⟨zk_wi 2 (by decide +kernel) rfl, List.forall_mem_cons.mpr ⟨zk_wi 113 (by decide +kernel) rfl, fun _ h => absurd h List.not_mem_nil⟩⟩⟩⟩⟩) (fun ci h => by
      have h := Nat.eq_of_beq_eq_true h
      subst h
      exact ⟨_, _, rfl⟩) (by decide +kernel) ⟨by decide, by decide, by decide +kernel⟩ ⟨by decide, by decide⟩
def sp_X10_farWay (E : zk_E) : zk_Sp zk_S := fun av σ sz P PX => match av with
  | [.ref a, .int r] => a = zk_ad E 0 ∧ ∃ J N, IC E sz σ J N ∧ RD J N r (fun j => ZC J N σ sz (some (.int (a_far J N j))) P) (ZX J N σ sz "java/lang/IndexOutOfBoundsException" PX)
  | _ => False
theorem spe_X10_farWay (E : zk_E) (a : Nat) (r : Int32) (σ : zk_S) (sz : Nat) (P : zk_P zk_S) (PX : zk_X zk_S) : sp_X10_farWay E [.ref a, .int r] σ sz P PX = (a = zk_ad E 0 ∧ ∃ J N, IC E sz σ J N ∧ RD J N r (fun j => ZC J N σ sz (some (.int (a_far J N j))) P) (ZX J N σ sz "java/lang/IndexOutOfBoundsException" PX)) := propext Iff.rfl
def C_X10_farWay (E : zk_E) : zk_Cl zk_S := zk_lka [(2, 2, 1, 6, zk_rv (zk_VT E) (fun ci => Nat.beq ci 9) (sp_X10_roomThere E)), (7, 1, 0, 0, zk_rv (zk_VT E) (fun ci => Nat.beq ci 9) (sp_X10_reckon E))]
theorem r_X10_farWay (E : zk_E) (P : zk_P zk_S) (PX : zk_X zk_S) (K : Nat → zk_L → List Value → zk_W zk_S → Prop) : (∀ (n : Nat) (l1 l2 : Option Value) (y0 : Value) (r : List Value) (σ : zk_S) (sz k c : Nat), zk_run E (zk_VT E) M_X10_farWay (C_X10_farWay E) P PX K (n + 1) 0 [some y0, l1, l2] r (σ, sz, k, c) = (zk_isr y0 ∧ zk_run E (zk_VT E) M_X10_farWay (C_X10_farWay E) P PX K n 1 [some y0, l1, l2] (y0 :: r) (σ, sz, k, c))) ∧
  (∀ (n : Nat) (l0 l2 : Option Value) (y1 : Int32) (r : List Value) (σ : zk_S) (sz k c : Nat), zk_run E (zk_VT E) M_X10_farWay (C_X10_farWay E) P PX K (n + 1) 1 [l0, some (.int y1), l2] r (σ, sz, k, c) = zk_run E (zk_VT E) M_X10_farWay (C_X10_farWay E) P PX K n 2 [l0, some (.int y1), l2] (.int y1 :: r) (σ, sz, k, c)) ∧
  (∀ (n : Nat) (l0 l1 l2 : Option Value) (v0 : Value) (v1 : Value)  (σ : zk_S) (sz k c : Nat), zk_run E (zk_VT E) M_X10_farWay (C_X10_farWay E) P PX K (n + 1) 2 [l0, l1, l2] [v0, v1] (σ, sz, k, c) = (k + 1 ≤ 1 ∧ c + 6 ≤ 6 ∧ (zk_rv (zk_VT E) (fun ci => Nat.beq ci 9) (sp_X10_roomThere E)) [v1, v0] σ sz (fun v s2 z2 => zk_run E (zk_VT E) M_X10_farWay (C_X10_farWay E) P PX K n 5 [l0, l1, l2] (zk_psh v []) (s2, z2, k + 1, c + 6)) (fun X s2 z2 => PX X s2 z2))) ∧
  (∀ (n : Nat) (l0 l1 l2 : Option Value) (x : Value) (r : List Value) (σ : zk_S) (sz k c : Nat), zk_run E (zk_VT E) M_X10_farWay (C_X10_farWay E) P PX K (n + 1) 5 [l0, l1, l2] (x :: r) (σ, sz, k, c) = (zk_isr x ∧ zk_run E (zk_VT E) M_X10_farWay (C_X10_farWay E) P PX K n 6 [l0, zk_kl l1, some (x)] r (σ, sz, k, c))) ∧
  (∀ (n : Nat) (l1 l2 : Option Value) (y0 : Value) (r : List Value) (σ : zk_S) (sz k c : Nat), zk_run E (zk_VT E) M_X10_farWay (C_X10_farWay E) P PX K (n + 1) 6 [some y0, l1, l2] r (σ, sz, k, c) = (zk_isr y0 ∧ zk_run E (zk_VT E) M_X10_farWay (C_X10_farWay E) P PX K n 7 [some y0, l1, l2] (y0 :: r) (σ, sz, k, c))) ∧
  (∀ (n : Nat) (l0 l1 l2 : Option Value) (v0 : Value)  (σ : zk_S) (sz k c : Nat), zk_run E (zk_VT E) M_X10_farWay (C_X10_farWay E) P PX K (n + 1) 7 [l0, l1, l2] [v0] (σ, sz, k, c) = (k + 0 ≤ 1 ∧ c + 0 ≤ 6 ∧ (zk_rv (zk_VT E) (fun ci => Nat.beq ci 9) (sp_X10_reckon E)) [v0] σ sz (fun v s2 z2 => zk_run E (zk_VT E) M_X10_farWay (C_X10_farWay E) P PX K n 10 [l0, l1, l2] (zk_psh v []) (s2, z2, k + 0, c + 0)) (fun X s2 z2 => PX X s2 z2))) ∧
  (∀ (n : Nat) (l1 l2 : Option Value) (y0 : Value) (r : List Value) (σ : zk_S) (sz k c : Nat), zk_run E (zk_VT E) M_X10_farWay (C_X10_farWay E) P PX K (n + 1) 10 [some y0, l1, l2] r (σ, sz, k, c) = (zk_isr y0 ∧ zk_run E (zk_VT E) M_X10_farWay (C_X10_farWay E) P PX K n 11 [some y0, l1, l2] (y0 :: r) (σ, sz, k, c))) ∧
  (∀ (n : Nat) (l0 l1 l2 : Option Value) (a : Nat) (r : List Value) (σ : zk_S) (sz k c : Nat), zk_run E (zk_VT E) M_X10_farWay (C_X10_farWay E) P PX K (n + 1) 11 [l0, l1, l2] (.ref a :: r) (σ, sz, k, c) = zk_fld (zk_view E σ a) [9] 1 (fun v => zk_run E (zk_VT E) M_X10_farWay (C_X10_farWay E) P PX K n 14 [l0, l1, l2] (v :: r) (σ, sz, k, c))) ∧
  (∀ (n : Nat) (l0 l1 l2 : Option Value) (a : Nat) (r : List Value) (σ : zk_S) (sz k c : Nat), zk_run E (zk_VT E) M_X10_farWay (C_X10_farWay E) P PX K (n + 1) 14 [l0, l1, l2] (.ref a :: r) (σ, sz, k, c) = zk_fld (zk_view E σ a) [7] 5 (fun v => zk_run E (zk_VT E) M_X10_farWay (C_X10_farWay E) P PX K n 17 [l0, l1, l2] (v :: r) (σ, sz, k, c))) ∧
  (∀ (n : Nat) (l0 l1 : Option Value) (y2 : Value) (r : List Value) (σ : zk_S) (sz k c : Nat), zk_run E (zk_VT E) M_X10_farWay (C_X10_farWay E) P PX K (n + 1) 17 [l0, l1, some y2] r (σ, sz, k, c) = (zk_isr y2 ∧ zk_run E (zk_VT E) M_X10_farWay (C_X10_farWay E) P PX K n 18 [l0, l1, some y2] (y2 :: r) (σ, sz, k, c))) ∧
  (∀ (n : Nat) (l0 l1 l2 : Option Value) (a : Nat) (r : List Value) (σ : zk_S) (sz k c : Nat), zk_run E (zk_VT E) M_X10_farWay (C_X10_farWay E) P PX K (n + 1) 18 [l0, l1, l2] (.ref a :: r) (σ, sz, k, c) = zk_fld (zk_view E σ a) [5] 0 (fun v => zk_run E (zk_VT E) M_X10_farWay (C_X10_farWay E) P PX K n 21 [l0, l1, l2] (v :: r) (σ, sz, k, c))) ∧
  (∀ (n : Nat) (l0 l1 l2 : Option Value) (a : Nat) (i : Int32) (r : List Value) (σ : zk_S) (sz k c : Nat), zk_run E (zk_VT E) M_X10_farWay (C_X10_farWay E) P PX K (n + 1) 21 [l0, l1, l2] (.int i :: .ref a :: r) (σ, sz, k, c) = zk_ild (zk_view E σ a) (zk_ar E 0) i (fun x => zk_run E (zk_VT E) M_X10_farWay (C_X10_farWay E) P PX K n 22 [l0, l1, l2] (.int x :: r) (σ, sz, k, c))) ∧
  (∀ (n : Nat) (l0 l1 l2 : Option Value) (x : Int32)  (σ : zk_S) (sz k c : Nat), zk_run E (zk_VT E) M_X10_farWay (C_X10_farWay E) P PX K (n + 1) 22 [l0, l1, l2] [.int x] (σ, sz, k, c) = (zk_nok (some (.int)) x ∧ P (some (.int x)) σ sz ∧ k ≤ 1 ∧ c ≤ 6)) ∧
  (∀ (n : Nat) (l0 l1 l2 : Option Value) (r : List Value) (w : zk_W zk_S), zk_go E (zk_VT E) M_X10_farWay (C_X10_farWay E) P PX K n 0 [l0, l1, l2] r w = zk_run E (zk_VT E) M_X10_farWay (C_X10_farWay E) P PX K (n + 1) 0 [l0, l1, l2] r w) := ⟨by intros; rfl, by intros; rfl, by intros; rfl, by intros; rfl, by intros; rfl, by intros; rfl, by intros; rfl, by intros; rfl, by intros; rfl, by intros; rfl, by intros; rfl, by intros; rfl, by intros; rfl, by intros; rfl⟩
theorem vc_X10_farWay (E : zk_E) : zk_VC E (zk_VT E) M_X10_farWay (C_X10_farWay E) 3 (sp_X10_farWay E) := by
  intro av σ sz P PX h
  obtain ⟨J, N, Q, O, U⟩ := σ
  unfold sp_X10_farWay at h
  split at h
  case h_2 => exact h.elim
  rename_i a0 r
  obtain ⟨rfl, h⟩ := h
  refine ⟨Nat.le_of_ble_eq_true rfl, fun G hG => ?_⟩
  change G 0 [some (.ref (zk_ad E 0)), some (.int r), none] [] ((J, N, Q, O, U), sz, 0, 0)
  try dsimp only at h
  obtain ⟨J1, N1, ⟨hmi, hxr, hrk⟩, h⟩ := h
  rcases h with ⟨j, hj, rfl, h⟩ | ⟨hr, h⟩
  · have hj0 := hj
    obtain ⟨b, hb, hbo, hOb⟩ := hxr.2.1.room hmi hj
    have hb : Q 2 j = some b := hb
    have hOb : O b = some (xrm N1 j) := hOb
    have hb1 := hbo.1
    have hj20 := hj.lt hmi
    have in19 : m_isIn (nI j) 0 19 = true := n_isIn (by decide) hj20 (by decide)
    have hin : vp_in (nI j) 20 := n_in hj20 (by decide)
    have hcl : (nI j).toNatClampNeg = j := n_cl (by omega)
    have g0 : ∀ F : Value → Prop, zk_fld (O b) [5] 0 F = F (.int (nI j)) := fun F => by rw [hOb]; simp [zk_fld_o, xrm, cR, zk_nth]
    (refine hG 900 _ _ _ _ ?_; simp only [r_X10_farWay, zk_kl_none, zk_kl_int, zk_kl_ref, zk_kl_null, zk_kl_long, zk_kl_rf, zk_isr_ref, zk_isr_null, zk_isr_rf9, zk_c1_int, zk_c1_ref, zk_c1_null, zk_c1_rf, zk_psh_some, zk_psh_none, zk_nok_int, zk_nok_bool0, zk_nok_bool1, zk_nok_b, zk_fok_0, zk_fok_1, zk_fok_2, zk_fok_n, zk_fok_rf, zb_f, zb_p, zb_i, zb_a, zb_s, zk_nth_0, zk_nth_s, zk_fld_o, zk_put_o, zk_rv_eq, zk_ri_eq, zk_is_o, List.mem_cons, List.not_mem_nil, or_false, false_or, or_true, true_or, and_true, true_and, not_false_iff, not_true_eq_false, true_implies, false_implies, imp_self, implies_true, forall_const, zk_lit, zk_uj_ap, zk_un_ap, zk_un_un, zk_uj_uj, Nat.reduceEqDiff, eq_self, zk_bq, Bool.true_or, Bool.false_or, Nat.le_refl, Nat.zero_add, Nat.add_zero, Nat.reduceAdd, Nat.reduceLeDiff, Nat.le_zero_eq, and_self, and_false, false_and, ite_true, ite_false, Nat.zero_le, List.length_cons, List.length_nil, Option.some.injEq, forall_eq', reduceCtorEq, spe_X10_roomThere, in19, hcl, hb, Bool.true_eq_false, zk_vd hb1, g0, spe_X10_reckon])
    refine ⟨J1, N1, fl0 N1, hmi, hxr, hrk, fun J2 N2 hke hcf => ?_⟩
    have h := h J2 N2 hke (Or.inr hcf)
    obtain ⟨h11, h12, h13, h14⟩ := hcf.2.1.2.2 j hj20
    simp only [r_X10_farWay, zk_kl_none, zk_kl_int, zk_kl_ref, zk_kl_null, zk_kl_long, zk_kl_rf, zk_isr_ref, zk_isr_null, zk_isr_rf9, zk_c1_int, zk_c1_ref, zk_c1_null, zk_c1_rf, zk_psh_some, zk_psh_none, zk_nok_int, zk_nok_bool0, zk_nok_bool1, zk_nok_b, zk_fok_0, zk_fok_1, zk_fok_2, zk_fok_n, zk_fok_rf, zb_f, zb_p, zb_i, zb_a, zb_s, zk_nth_0, zk_nth_s, zk_fld_o, zk_put_o, zk_rv_eq, zk_ri_eq, zk_is_o, List.mem_cons, List.not_mem_nil, or_false, false_or, or_true, true_or, and_true, true_and, not_false_iff, not_true_eq_false, true_implies, false_implies, imp_self, implies_true, forall_const, zk_lit, zk_uj_ap, zk_un_ap, zk_un_un, zk_uj_uj, Nat.reduceEqDiff, eq_self, zk_bq, Bool.true_or, Bool.false_or, Nat.le_refl, Nat.zero_add, Nat.add_zero, Nat.reduceAdd, Nat.reduceLeDiff, Nat.le_zero_eq, and_self, and_false, false_and, ite_true, ite_false, Nat.zero_le, List.length_cons, List.length_nil, Option.some.injEq, forall_eq', reduceCtorEq, zk_vd hb1, g0, hin, hcl, h13]
    exact h
  · rcases hxr.noroom hmi.1 hr with q | ⟨q, q2⟩
    · (refine hG 900 _ _ _ _ ?_; simp only [r_X10_farWay, zk_kl_none, zk_kl_int, zk_kl_ref, zk_kl_null, zk_kl_long, zk_kl_rf, zk_isr_ref, zk_isr_null, zk_isr_rf9, zk_c1_int, zk_c1_ref, zk_c1_null, zk_c1_rf, zk_psh_some, zk_psh_none, zk_nok_int, zk_nok_bool0, zk_nok_bool1, zk_nok_b, zk_fok_0, zk_fok_1, zk_fok_2, zk_fok_n, zk_fok_rf, zb_f, zb_p, zb_i, zb_a, zb_s, zk_nth_0, zk_nth_s, zk_fld_o, zk_put_o, zk_rv_eq, zk_ri_eq, zk_is_o, List.mem_cons, List.not_mem_nil, or_false, false_or, or_true, true_or, and_true, true_and, not_false_iff, not_true_eq_false, true_implies, false_implies, imp_self, implies_true, forall_const, zk_lit, zk_uj_ap, zk_un_ap, zk_un_un, zk_uj_uj, Nat.reduceEqDiff, eq_self, zk_bq, Bool.true_or, Bool.false_or, Nat.le_refl, Nat.zero_add, Nat.add_zero, Nat.reduceAdd, Nat.reduceLeDiff, Nat.le_zero_eq, and_self, and_false, false_and, ite_true, ite_false, Nat.zero_le, List.length_cons, List.length_nil, Option.some.injEq, forall_eq', reduceCtorEq, spe_X10_roomThere, q, Bool.false_eq_true])
      exact fun z2 hz => h J N z2 (KE.refl J N) hrk hz
    · (refine hG 900 _ _ _ _ ?_; simp only [r_X10_farWay, zk_kl_none, zk_kl_int, zk_kl_ref, zk_kl_null, zk_kl_long, zk_kl_rf, zk_isr_ref, zk_isr_null, zk_isr_rf9, zk_c1_int, zk_c1_ref, zk_c1_null, zk_c1_rf, zk_psh_some, zk_psh_none, zk_nok_int, zk_nok_bool0, zk_nok_bool1, zk_nok_b, zk_fok_0, zk_fok_1, zk_fok_2, zk_fok_n, zk_fok_rf, zb_f, zb_p, zb_i, zb_a, zb_s, zk_nth_0, zk_nth_s, zk_fld_o, zk_put_o, zk_rv_eq, zk_ri_eq, zk_is_o, List.mem_cons, List.not_mem_nil, or_false, false_or, or_true, true_or, and_true, true_and, not_false_iff, not_true_eq_false, true_implies, false_implies, imp_self, implies_true, forall_const, zk_lit, zk_uj_ap, zk_un_ap, zk_un_un, zk_uj_uj, Nat.reduceEqDiff, eq_self, zk_bq, Bool.true_or, Bool.false_or, Nat.le_refl, Nat.zero_add, Nat.add_zero, Nat.reduceAdd, Nat.reduceLeDiff, Nat.le_zero_eq, and_self, and_false, false_and, ite_true, ite_false, Nat.zero_le, List.length_cons, List.length_nil, Option.some.injEq, forall_eq', reduceCtorEq, spe_X10_roomThere, q, q2])
      exact fun z2 hz => h J N z2 (KE.refl J N) hrk hz
theorem ct_X10_farWay {l : Launch} (hl : l.stackTraces = false) (E : zk_E) : zk_C l E (zk_VT E) yX10_farWay cX10_farWay 3 (some (.int)) rm_X10_farWay (sp_X10_farWay E) := by
  refine zk_meth (M := M_X10_farWay) (C := C_X10_farWay E) hl (by decide +kernel) rfl (fun _ _ => rfl) (zk_VT_ok E) MO_X10_farWay TO_X10_farWay THo_X10_farWay ?_ (vc_X10_farWay E)
  exact fun p e s m args below meth c X pc n mc ms sp2 h => by
    have h2 := zk_lka_mem h
    simp only [List.mem_cons, List.not_mem_nil, or_false, Prod.mk.injEq] at h2
    rcases h2 with ⟨rfl, rfl, rfl, rfl, rfl⟩ | ⟨rfl, rfl, rfl, rfl, rfl⟩
    · exact zk_coV (idx := 76) X (ct_X10_roomThere hl E) (List.forall_mem_cons.mpr ⟨zk_wi 105 (by decide +kernel) rfl, List.forall_mem_cons.mpr ⟨zk_wi 107 (by decide +kernel) rfl, List.forall_mem_cons.mpr ⟨zk_wp 2 (by decide +kernel) rfl, List.forall_mem_cons.mpr ⟨zk_wi 2 (by decide +kernel) rfl, List.forall_mem_cons.mpr ⟨zk_wi 108 (by decide +kernel) rfl, fun _ h => absurd h List.not_mem_nil⟩⟩⟩⟩⟩) (fun ci h => by
      have h := Nat.eq_of_beq_eq_true h
      subst h
      exact ⟨_, _, rfl⟩) (by decide +kernel) ⟨by decide, by decide, by decide +kernel⟩ ⟨by decide, by decide⟩
    · exact zk_coV (idx := 197) X (ct_X10_reckon hl E) (List.forall_mem_cons.mpr ⟨zk_wi 110 (by decide +kernel) rfl, List.forall_mem_cons.mpr ⟨zk_wi 112 (by decide +kernel) rfl, List.forall_mem_cons.mpr ⟨zk_wp 3 (by decide +kernel) rfl, List.forall_mem_cons.mpr ⟨zk_wi 2 (by decide +kernel) rfl, List.forall_mem_cons.mpr ⟨zk_wi 113 (by decide +kernel) rfl, fun _ h => absurd h List.not_mem_nil⟩⟩⟩⟩⟩) (fun ci h => by
      have h := Nat.eq_of_beq_eq_true h
      subst h
      exact ⟨_, _, rfl⟩) (by decide +kernel) ⟨by decide, by decide, by decide +kernel⟩ ⟨by decide, by decide⟩
def sp_X10_middleWay (E : zk_E) : zk_Sp zk_S := fun av σ sz P PX => match av with
  | [.ref a, .int r] => a = zk_ad E 0 ∧ ∃ J N, IC E sz σ J N ∧ RD J N r (fun j => ZC J N σ sz (some (.int (a_mid J N j))) P) (ZX J N σ sz "java/lang/IndexOutOfBoundsException" PX)
  | _ => False
theorem spe_X10_middleWay (E : zk_E) (a : Nat) (r : Int32) (σ : zk_S) (sz : Nat) (P : zk_P zk_S) (PX : zk_X zk_S) : sp_X10_middleWay E [.ref a, .int r] σ sz P PX = (a = zk_ad E 0 ∧ ∃ J N, IC E sz σ J N ∧ RD J N r (fun j => ZC J N σ sz (some (.int (a_mid J N j))) P) (ZX J N σ sz "java/lang/IndexOutOfBoundsException" PX)) := propext Iff.rfl
def C_X10_middleWay (E : zk_E) : zk_Cl zk_S := zk_lka [(2, 2, 1, 6, zk_rv (zk_VT E) (fun ci => Nat.beq ci 9) (sp_X10_roomThere E)), (7, 1, 0, 0, zk_rv (zk_VT E) (fun ci => Nat.beq ci 9) (sp_X10_reckon E))]
theorem r_X10_middleWay (E : zk_E) (P : zk_P zk_S) (PX : zk_X zk_S) (K : Nat → zk_L → List Value → zk_W zk_S → Prop) : (∀ (n : Nat) (l1 l2 : Option Value) (y0 : Value) (r : List Value) (σ : zk_S) (sz k c : Nat), zk_run E (zk_VT E) M_X10_middleWay (C_X10_middleWay E) P PX K (n + 1) 0 [some y0, l1, l2] r (σ, sz, k, c) = (zk_isr y0 ∧ zk_run E (zk_VT E) M_X10_middleWay (C_X10_middleWay E) P PX K n 1 [some y0, l1, l2] (y0 :: r) (σ, sz, k, c))) ∧
  (∀ (n : Nat) (l0 l2 : Option Value) (y1 : Int32) (r : List Value) (σ : zk_S) (sz k c : Nat), zk_run E (zk_VT E) M_X10_middleWay (C_X10_middleWay E) P PX K (n + 1) 1 [l0, some (.int y1), l2] r (σ, sz, k, c) = zk_run E (zk_VT E) M_X10_middleWay (C_X10_middleWay E) P PX K n 2 [l0, some (.int y1), l2] (.int y1 :: r) (σ, sz, k, c)) ∧
  (∀ (n : Nat) (l0 l1 l2 : Option Value) (v0 : Value) (v1 : Value)  (σ : zk_S) (sz k c : Nat), zk_run E (zk_VT E) M_X10_middleWay (C_X10_middleWay E) P PX K (n + 1) 2 [l0, l1, l2] [v0, v1] (σ, sz, k, c) = (k + 1 ≤ 1 ∧ c + 6 ≤ 6 ∧ (zk_rv (zk_VT E) (fun ci => Nat.beq ci 9) (sp_X10_roomThere E)) [v1, v0] σ sz (fun v s2 z2 => zk_run E (zk_VT E) M_X10_middleWay (C_X10_middleWay E) P PX K n 5 [l0, l1, l2] (zk_psh v []) (s2, z2, k + 1, c + 6)) (fun X s2 z2 => PX X s2 z2))) ∧
  (∀ (n : Nat) (l0 l1 l2 : Option Value) (x : Value) (r : List Value) (σ : zk_S) (sz k c : Nat), zk_run E (zk_VT E) M_X10_middleWay (C_X10_middleWay E) P PX K (n + 1) 5 [l0, l1, l2] (x :: r) (σ, sz, k, c) = (zk_isr x ∧ zk_run E (zk_VT E) M_X10_middleWay (C_X10_middleWay E) P PX K n 6 [l0, zk_kl l1, some (x)] r (σ, sz, k, c))) ∧
  (∀ (n : Nat) (l1 l2 : Option Value) (y0 : Value) (r : List Value) (σ : zk_S) (sz k c : Nat), zk_run E (zk_VT E) M_X10_middleWay (C_X10_middleWay E) P PX K (n + 1) 6 [some y0, l1, l2] r (σ, sz, k, c) = (zk_isr y0 ∧ zk_run E (zk_VT E) M_X10_middleWay (C_X10_middleWay E) P PX K n 7 [some y0, l1, l2] (y0 :: r) (σ, sz, k, c))) ∧
  (∀ (n : Nat) (l0 l1 l2 : Option Value) (v0 : Value)  (σ : zk_S) (sz k c : Nat), zk_run E (zk_VT E) M_X10_middleWay (C_X10_middleWay E) P PX K (n + 1) 7 [l0, l1, l2] [v0] (σ, sz, k, c) = (k + 0 ≤ 1 ∧ c + 0 ≤ 6 ∧ (zk_rv (zk_VT E) (fun ci => Nat.beq ci 9) (sp_X10_reckon E)) [v0] σ sz (fun v s2 z2 => zk_run E (zk_VT E) M_X10_middleWay (C_X10_middleWay E) P PX K n 10 [l0, l1, l2] (zk_psh v []) (s2, z2, k + 0, c + 0)) (fun X s2 z2 => PX X s2 z2))) ∧
  (∀ (n : Nat) (l1 l2 : Option Value) (y0 : Value) (r : List Value) (σ : zk_S) (sz k c : Nat), zk_run E (zk_VT E) M_X10_middleWay (C_X10_middleWay E) P PX K (n + 1) 10 [some y0, l1, l2] r (σ, sz, k, c) = (zk_isr y0 ∧ zk_run E (zk_VT E) M_X10_middleWay (C_X10_middleWay E) P PX K n 11 [some y0, l1, l2] (y0 :: r) (σ, sz, k, c))) ∧
  (∀ (n : Nat) (l0 l1 l2 : Option Value) (a : Nat) (r : List Value) (σ : zk_S) (sz k c : Nat), zk_run E (zk_VT E) M_X10_middleWay (C_X10_middleWay E) P PX K (n + 1) 11 [l0, l1, l2] (.ref a :: r) (σ, sz, k, c) = zk_fld (zk_view E σ a) [9] 1 (fun v => zk_run E (zk_VT E) M_X10_middleWay (C_X10_middleWay E) P PX K n 14 [l0, l1, l2] (v :: r) (σ, sz, k, c))) ∧
  (∀ (n : Nat) (l0 l1 l2 : Option Value) (a : Nat) (r : List Value) (σ : zk_S) (sz k c : Nat), zk_run E (zk_VT E) M_X10_middleWay (C_X10_middleWay E) P PX K (n + 1) 14 [l0, l1, l2] (.ref a :: r) (σ, sz, k, c) = zk_fld (zk_view E σ a) [7] 4 (fun v => zk_run E (zk_VT E) M_X10_middleWay (C_X10_middleWay E) P PX K n 17 [l0, l1, l2] (v :: r) (σ, sz, k, c))) ∧
  (∀ (n : Nat) (l0 l1 : Option Value) (y2 : Value) (r : List Value) (σ : zk_S) (sz k c : Nat), zk_run E (zk_VT E) M_X10_middleWay (C_X10_middleWay E) P PX K (n + 1) 17 [l0, l1, some y2] r (σ, sz, k, c) = (zk_isr y2 ∧ zk_run E (zk_VT E) M_X10_middleWay (C_X10_middleWay E) P PX K n 18 [l0, l1, some y2] (y2 :: r) (σ, sz, k, c))) ∧
  (∀ (n : Nat) (l0 l1 l2 : Option Value) (a : Nat) (r : List Value) (σ : zk_S) (sz k c : Nat), zk_run E (zk_VT E) M_X10_middleWay (C_X10_middleWay E) P PX K (n + 1) 18 [l0, l1, l2] (.ref a :: r) (σ, sz, k, c) = zk_fld (zk_view E σ a) [5] 0 (fun v => zk_run E (zk_VT E) M_X10_middleWay (C_X10_middleWay E) P PX K n 21 [l0, l1, l2] (v :: r) (σ, sz, k, c))) ∧
  (∀ (n : Nat) (l0 l1 l2 : Option Value) (a : Nat) (i : Int32) (r : List Value) (σ : zk_S) (sz k c : Nat), zk_run E (zk_VT E) M_X10_middleWay (C_X10_middleWay E) P PX K (n + 1) 21 [l0, l1, l2] (.int i :: .ref a :: r) (σ, sz, k, c) = zk_ild (zk_view E σ a) (zk_ar E 0) i (fun x => zk_run E (zk_VT E) M_X10_middleWay (C_X10_middleWay E) P PX K n 22 [l0, l1, l2] (.int x :: r) (σ, sz, k, c))) ∧
  (∀ (n : Nat) (l0 l1 l2 : Option Value) (x : Int32)  (σ : zk_S) (sz k c : Nat), zk_run E (zk_VT E) M_X10_middleWay (C_X10_middleWay E) P PX K (n + 1) 22 [l0, l1, l2] [.int x] (σ, sz, k, c) = (zk_nok (some (.int)) x ∧ P (some (.int x)) σ sz ∧ k ≤ 1 ∧ c ≤ 6)) ∧
  (∀ (n : Nat) (l0 l1 l2 : Option Value) (r : List Value) (w : zk_W zk_S), zk_go E (zk_VT E) M_X10_middleWay (C_X10_middleWay E) P PX K n 0 [l0, l1, l2] r w = zk_run E (zk_VT E) M_X10_middleWay (C_X10_middleWay E) P PX K (n + 1) 0 [l0, l1, l2] r w) := ⟨by intros; rfl, by intros; rfl, by intros; rfl, by intros; rfl, by intros; rfl, by intros; rfl, by intros; rfl, by intros; rfl, by intros; rfl, by intros; rfl, by intros; rfl, by intros; rfl, by intros; rfl, by intros; rfl⟩
theorem vc_X10_middleWay (E : zk_E) : zk_VC E (zk_VT E) M_X10_middleWay (C_X10_middleWay E) 3 (sp_X10_middleWay E) := by
  intro av σ sz P PX h
  obtain ⟨J, N, Q, O, U⟩ := σ
  unfold sp_X10_middleWay at h
  split at h
  case h_2 => exact h.elim
  rename_i a0 r
  obtain ⟨rfl, h⟩ := h
  refine ⟨Nat.le_of_ble_eq_true rfl, fun G hG => ?_⟩
  change G 0 [some (.ref (zk_ad E 0)), some (.int r), none] [] ((J, N, Q, O, U), sz, 0, 0)
  try dsimp only at h
  obtain ⟨J1, N1, ⟨hmi, hxr, hrk⟩, h⟩ := h
  rcases h with ⟨j, hj, rfl, h⟩ | ⟨hr, h⟩
  · have hj0 := hj
    obtain ⟨b, hb, hbo, hOb⟩ := hxr.2.1.room hmi hj
    have hb : Q 2 j = some b := hb
    have hOb : O b = some (xrm N1 j) := hOb
    have hb1 := hbo.1
    have hj20 := hj.lt hmi
    have in19 : m_isIn (nI j) 0 19 = true := n_isIn (by decide) hj20 (by decide)
    have hin : vp_in (nI j) 20 := n_in hj20 (by decide)
    have hcl : (nI j).toNatClampNeg = j := n_cl (by omega)
    have g0 : ∀ F : Value → Prop, zk_fld (O b) [5] 0 F = F (.int (nI j)) := fun F => by rw [hOb]; simp [zk_fld_o, xrm, cR, zk_nth]
    (refine hG 900 _ _ _ _ ?_; simp only [r_X10_middleWay, zk_kl_none, zk_kl_int, zk_kl_ref, zk_kl_null, zk_kl_long, zk_kl_rf, zk_isr_ref, zk_isr_null, zk_isr_rf9, zk_c1_int, zk_c1_ref, zk_c1_null, zk_c1_rf, zk_psh_some, zk_psh_none, zk_nok_int, zk_nok_bool0, zk_nok_bool1, zk_nok_b, zk_fok_0, zk_fok_1, zk_fok_2, zk_fok_n, zk_fok_rf, zb_f, zb_p, zb_i, zb_a, zb_s, zk_nth_0, zk_nth_s, zk_fld_o, zk_put_o, zk_rv_eq, zk_ri_eq, zk_is_o, List.mem_cons, List.not_mem_nil, or_false, false_or, or_true, true_or, and_true, true_and, not_false_iff, not_true_eq_false, true_implies, false_implies, imp_self, implies_true, forall_const, zk_lit, zk_uj_ap, zk_un_ap, zk_un_un, zk_uj_uj, Nat.reduceEqDiff, eq_self, zk_bq, Bool.true_or, Bool.false_or, Nat.le_refl, Nat.zero_add, Nat.add_zero, Nat.reduceAdd, Nat.reduceLeDiff, Nat.le_zero_eq, and_self, and_false, false_and, ite_true, ite_false, Nat.zero_le, List.length_cons, List.length_nil, Option.some.injEq, forall_eq', reduceCtorEq, spe_X10_roomThere, in19, hcl, hb, Bool.true_eq_false, zk_vd hb1, g0, spe_X10_reckon])
    refine ⟨J1, N1, fl0 N1, hmi, hxr, hrk, fun J2 N2 hke hcf => ?_⟩
    have h := h J2 N2 hke (Or.inr hcf)
    obtain ⟨h11, h12, h13, h14⟩ := hcf.2.1.2.2 j hj20
    simp only [r_X10_middleWay, zk_kl_none, zk_kl_int, zk_kl_ref, zk_kl_null, zk_kl_long, zk_kl_rf, zk_isr_ref, zk_isr_null, zk_isr_rf9, zk_c1_int, zk_c1_ref, zk_c1_null, zk_c1_rf, zk_psh_some, zk_psh_none, zk_nok_int, zk_nok_bool0, zk_nok_bool1, zk_nok_b, zk_fok_0, zk_fok_1, zk_fok_2, zk_fok_n, zk_fok_rf, zb_f, zb_p, zb_i, zb_a, zb_s, zk_nth_0, zk_nth_s, zk_fld_o, zk_put_o, zk_rv_eq, zk_ri_eq, zk_is_o, List.mem_cons, List.not_mem_nil, or_false, false_or, or_true, true_or, and_true, true_and, not_false_iff, not_true_eq_false, true_implies, false_implies, imp_self, implies_true, forall_const, zk_lit, zk_uj_ap, zk_un_ap, zk_un_un, zk_uj_uj, Nat.reduceEqDiff, eq_self, zk_bq, Bool.true_or, Bool.false_or, Nat.le_refl, Nat.zero_add, Nat.add_zero, Nat.reduceAdd, Nat.reduceLeDiff, Nat.le_zero_eq, and_self, and_false, false_and, ite_true, ite_false, Nat.zero_le, List.length_cons, List.length_nil, Option.some.injEq, forall_eq', reduceCtorEq, zk_vd hb1, g0, hin, hcl, h12]
    exact h
  · rcases hxr.noroom hmi.1 hr with q | ⟨q, q2⟩
    · (refine hG 900 _ _ _ _ ?_; simp only [r_X10_middleWay, zk_kl_none, zk_kl_int, zk_kl_ref, zk_kl_null, zk_kl_long, zk_kl_rf, zk_isr_ref, zk_isr_null, zk_isr_rf9, zk_c1_int, zk_c1_ref, zk_c1_null, zk_c1_rf, zk_psh_some, zk_psh_none, zk_nok_int, zk_nok_bool0, zk_nok_bool1, zk_nok_b, zk_fok_0, zk_fok_1, zk_fok_2, zk_fok_n, zk_fok_rf, zb_f, zb_p, zb_i, zb_a, zb_s, zk_nth_0, zk_nth_s, zk_fld_o, zk_put_o, zk_rv_eq, zk_ri_eq, zk_is_o, List.mem_cons, List.not_mem_nil, or_false, false_or, or_true, true_or, and_true, true_and, not_false_iff, not_true_eq_false, true_implies, false_implies, imp_self, implies_true, forall_const, zk_lit, zk_uj_ap, zk_un_ap, zk_un_un, zk_uj_uj, Nat.reduceEqDiff, eq_self, zk_bq, Bool.true_or, Bool.false_or, Nat.le_refl, Nat.zero_add, Nat.add_zero, Nat.reduceAdd, Nat.reduceLeDiff, Nat.le_zero_eq, and_self, and_false, false_and, ite_true, ite_false, Nat.zero_le, List.length_cons, List.length_nil, Option.some.injEq, forall_eq', reduceCtorEq, spe_X10_roomThere, q, Bool.false_eq_true])
      exact fun z2 hz => h J N z2 (KE.refl J N) hrk hz
    · (refine hG 900 _ _ _ _ ?_; simp only [r_X10_middleWay, zk_kl_none, zk_kl_int, zk_kl_ref, zk_kl_null, zk_kl_long, zk_kl_rf, zk_isr_ref, zk_isr_null, zk_isr_rf9, zk_c1_int, zk_c1_ref, zk_c1_null, zk_c1_rf, zk_psh_some, zk_psh_none, zk_nok_int, zk_nok_bool0, zk_nok_bool1, zk_nok_b, zk_fok_0, zk_fok_1, zk_fok_2, zk_fok_n, zk_fok_rf, zb_f, zb_p, zb_i, zb_a, zb_s, zk_nth_0, zk_nth_s, zk_fld_o, zk_put_o, zk_rv_eq, zk_ri_eq, zk_is_o, List.mem_cons, List.not_mem_nil, or_false, false_or, or_true, true_or, and_true, true_and, not_false_iff, not_true_eq_false, true_implies, false_implies, imp_self, implies_true, forall_const, zk_lit, zk_uj_ap, zk_un_ap, zk_un_un, zk_uj_uj, Nat.reduceEqDiff, eq_self, zk_bq, Bool.true_or, Bool.false_or, Nat.le_refl, Nat.zero_add, Nat.add_zero, Nat.reduceAdd, Nat.reduceLeDiff, Nat.le_zero_eq, and_self, and_false, false_and, ite_true, ite_false, Nat.zero_le, List.length_cons, List.length_nil, Option.some.injEq, forall_eq', reduceCtorEq, spe_X10_roomThere, q, q2])
      exact fun z2 hz => h J N z2 (KE.refl J N) hrk hz
theorem ct_X10_middleWay {l : Launch} (hl : l.stackTraces = false) (E : zk_E) : zk_C l E (zk_VT E) yX10_middleWay cX10_middleWay 3 (some (.int)) rm_X10_middleWay (sp_X10_middleWay E) := by
  refine zk_meth (M := M_X10_middleWay) (C := C_X10_middleWay E) hl (by decide +kernel) rfl (fun _ _ => rfl) (zk_VT_ok E) MO_X10_middleWay TO_X10_middleWay THo_X10_middleWay ?_ (vc_X10_middleWay E)
  exact fun p e s m args below meth c X pc n mc ms sp2 h => by
    have h2 := zk_lka_mem h
    simp only [List.mem_cons, List.not_mem_nil, or_false, Prod.mk.injEq] at h2
    rcases h2 with ⟨rfl, rfl, rfl, rfl, rfl⟩ | ⟨rfl, rfl, rfl, rfl, rfl⟩
    · exact zk_coV (idx := 76) X (ct_X10_roomThere hl E) (List.forall_mem_cons.mpr ⟨zk_wi 105 (by decide +kernel) rfl, List.forall_mem_cons.mpr ⟨zk_wi 107 (by decide +kernel) rfl, List.forall_mem_cons.mpr ⟨zk_wp 2 (by decide +kernel) rfl, List.forall_mem_cons.mpr ⟨zk_wi 2 (by decide +kernel) rfl, List.forall_mem_cons.mpr ⟨zk_wi 108 (by decide +kernel) rfl, fun _ h => absurd h List.not_mem_nil⟩⟩⟩⟩⟩) (fun ci h => by
      have h := Nat.eq_of_beq_eq_true h
      subst h
      exact ⟨_, _, rfl⟩) (by decide +kernel) ⟨by decide, by decide, by decide +kernel⟩ ⟨by decide, by decide⟩
    · exact zk_coV (idx := 197) X (ct_X10_reckon hl E) (List.forall_mem_cons.mpr ⟨zk_wi 110 (by decide +kernel) rfl, List.forall_mem_cons.mpr ⟨zk_wi 112 (by decide +kernel) rfl, List.forall_mem_cons.mpr ⟨zk_wp 3 (by decide +kernel) rfl, List.forall_mem_cons.mpr ⟨zk_wi 2 (by decide +kernel) rfl, List.forall_mem_cons.mpr ⟨zk_wi 113 (by decide +kernel) rfl, fun _ h => absurd h List.not_mem_nil⟩⟩⟩⟩⟩) (fun ci h => by
      have h := Nat.eq_of_beq_eq_true h
      subst h
      exact ⟨_, _, rfl⟩) (by decide +kernel) ⟨by decide, by decide, by decide +kernel⟩ ⟨by decide, by decide⟩
def sp_X10_depth (E : zk_E) : zk_Sp zk_S := fun av σ sz P PX => match av with
  | [.ref a, .int r] => a = zk_ad E 0 ∧ ∃ J N, IC E sz σ J N ∧ RD J N r (fun j => ZC J N σ sz (some (.int (g_deep J N j))) P) (ZX J N σ sz "java/lang/IndexOutOfBoundsException" PX)
  | _ => False
theorem spe_X10_depth (E : zk_E) (a : Nat) (r : Int32) (σ : zk_S) (sz : Nat) (P : zk_P zk_S) (PX : zk_X zk_S) : sp_X10_depth E [.ref a, .int r] σ sz P PX = (a = zk_ad E 0 ∧ ∃ J N, IC E sz σ J N ∧ RD J N r (fun j => ZC J N σ sz (some (.int (g_deep J N j))) P) (ZX J N σ sz "java/lang/IndexOutOfBoundsException" PX)) := propext Iff.rfl
def C_X10_depth (E : zk_E) : zk_Cl zk_S := zk_lka [(2, 2, 1, 6, zk_rv (zk_VT E) (fun ci => Nat.beq ci 9) (sp_X10_roomThere E)), (7, 1, 0, 0, zk_rv (zk_VT E) (fun ci => Nat.beq ci 9) (sp_X10_reckon E))]
theorem r_X10_depth (E : zk_E) (P : zk_P zk_S) (PX : zk_X zk_S) (K : Nat → zk_L → List Value → zk_W zk_S → Prop) : (∀ (n : Nat) (l1 l2 : Option Value) (y0 : Value) (r : List Value) (σ : zk_S) (sz k c : Nat), zk_run E (zk_VT E) M_X10_depth (C_X10_depth E) P PX K (n + 1) 0 [some y0, l1, l2] r (σ, sz, k, c) = (zk_isr y0 ∧ zk_run E (zk_VT E) M_X10_depth (C_X10_depth E) P PX K n 1 [some y0, l1, l2] (y0 :: r) (σ, sz, k, c))) ∧
  (∀ (n : Nat) (l0 l2 : Option Value) (y1 : Int32) (r : List Value) (σ : zk_S) (sz k c : Nat), zk_run E (zk_VT E) M_X10_depth (C_X10_depth E) P PX K (n + 1) 1 [l0, some (.int y1), l2] r (σ, sz, k, c) = zk_run E (zk_VT E) M_X10_depth (C_X10_depth E) P PX K n 2 [l0, some (.int y1), l2] (.int y1 :: r) (σ, sz, k, c)) ∧
  (∀ (n : Nat) (l0 l1 l2 : Option Value) (v0 : Value) (v1 : Value)  (σ : zk_S) (sz k c : Nat), zk_run E (zk_VT E) M_X10_depth (C_X10_depth E) P PX K (n + 1) 2 [l0, l1, l2] [v0, v1] (σ, sz, k, c) = (k + 1 ≤ 1 ∧ c + 6 ≤ 6 ∧ (zk_rv (zk_VT E) (fun ci => Nat.beq ci 9) (sp_X10_roomThere E)) [v1, v0] σ sz (fun v s2 z2 => zk_run E (zk_VT E) M_X10_depth (C_X10_depth E) P PX K n 5 [l0, l1, l2] (zk_psh v []) (s2, z2, k + 1, c + 6)) (fun X s2 z2 => PX X s2 z2))) ∧
  (∀ (n : Nat) (l0 l1 l2 : Option Value) (x : Value) (r : List Value) (σ : zk_S) (sz k c : Nat), zk_run E (zk_VT E) M_X10_depth (C_X10_depth E) P PX K (n + 1) 5 [l0, l1, l2] (x :: r) (σ, sz, k, c) = (zk_isr x ∧ zk_run E (zk_VT E) M_X10_depth (C_X10_depth E) P PX K n 6 [l0, zk_kl l1, some (x)] r (σ, sz, k, c))) ∧
  (∀ (n : Nat) (l1 l2 : Option Value) (y0 : Value) (r : List Value) (σ : zk_S) (sz k c : Nat), zk_run E (zk_VT E) M_X10_depth (C_X10_depth E) P PX K (n + 1) 6 [some y0, l1, l2] r (σ, sz, k, c) = (zk_isr y0 ∧ zk_run E (zk_VT E) M_X10_depth (C_X10_depth E) P PX K n 7 [some y0, l1, l2] (y0 :: r) (σ, sz, k, c))) ∧
  (∀ (n : Nat) (l0 l1 l2 : Option Value) (v0 : Value)  (σ : zk_S) (sz k c : Nat), zk_run E (zk_VT E) M_X10_depth (C_X10_depth E) P PX K (n + 1) 7 [l0, l1, l2] [v0] (σ, sz, k, c) = (k + 0 ≤ 1 ∧ c + 0 ≤ 6 ∧ (zk_rv (zk_VT E) (fun ci => Nat.beq ci 9) (sp_X10_reckon E)) [v0] σ sz (fun v s2 z2 => zk_run E (zk_VT E) M_X10_depth (C_X10_depth E) P PX K n 10 [l0, l1, l2] (zk_psh v []) (s2, z2, k + 0, c + 0)) (fun X s2 z2 => PX X s2 z2))) ∧
  (∀ (n : Nat) (l1 l2 : Option Value) (y0 : Value) (r : List Value) (σ : zk_S) (sz k c : Nat), zk_run E (zk_VT E) M_X10_depth (C_X10_depth E) P PX K (n + 1) 10 [some y0, l1, l2] r (σ, sz, k, c) = (zk_isr y0 ∧ zk_run E (zk_VT E) M_X10_depth (C_X10_depth E) P PX K n 11 [some y0, l1, l2] (y0 :: r) (σ, sz, k, c))) ∧
  (∀ (n : Nat) (l0 l1 l2 : Option Value) (a : Nat) (r : List Value) (σ : zk_S) (sz k c : Nat), zk_run E (zk_VT E) M_X10_depth (C_X10_depth E) P PX K (n + 1) 11 [l0, l1, l2] (.ref a :: r) (σ, sz, k, c) = zk_fld (zk_view E σ a) [9] 1 (fun v => zk_run E (zk_VT E) M_X10_depth (C_X10_depth E) P PX K n 14 [l0, l1, l2] (v :: r) (σ, sz, k, c))) ∧
  (∀ (n : Nat) (l0 l1 l2 : Option Value) (a : Nat) (r : List Value) (σ : zk_S) (sz k c : Nat), zk_run E (zk_VT E) M_X10_depth (C_X10_depth E) P PX K (n + 1) 14 [l0, l1, l2] (.ref a :: r) (σ, sz, k, c) = zk_fld (zk_view E σ a) [7] 6 (fun v => zk_run E (zk_VT E) M_X10_depth (C_X10_depth E) P PX K n 17 [l0, l1, l2] (v :: r) (σ, sz, k, c))) ∧
  (∀ (n : Nat) (l0 l1 : Option Value) (y2 : Value) (r : List Value) (σ : zk_S) (sz k c : Nat), zk_run E (zk_VT E) M_X10_depth (C_X10_depth E) P PX K (n + 1) 17 [l0, l1, some y2] r (σ, sz, k, c) = (zk_isr y2 ∧ zk_run E (zk_VT E) M_X10_depth (C_X10_depth E) P PX K n 18 [l0, l1, some y2] (y2 :: r) (σ, sz, k, c))) ∧
  (∀ (n : Nat) (l0 l1 l2 : Option Value) (a : Nat) (r : List Value) (σ : zk_S) (sz k c : Nat), zk_run E (zk_VT E) M_X10_depth (C_X10_depth E) P PX K (n + 1) 18 [l0, l1, l2] (.ref a :: r) (σ, sz, k, c) = zk_fld (zk_view E σ a) [5] 0 (fun v => zk_run E (zk_VT E) M_X10_depth (C_X10_depth E) P PX K n 21 [l0, l1, l2] (v :: r) (σ, sz, k, c))) ∧
  (∀ (n : Nat) (l0 l1 l2 : Option Value) (a : Nat) (i : Int32) (r : List Value) (σ : zk_S) (sz k c : Nat), zk_run E (zk_VT E) M_X10_depth (C_X10_depth E) P PX K (n + 1) 21 [l0, l1, l2] (.int i :: .ref a :: r) (σ, sz, k, c) = zk_ild (zk_view E σ a) (zk_ar E 0) i (fun x => zk_run E (zk_VT E) M_X10_depth (C_X10_depth E) P PX K n 22 [l0, l1, l2] (.int x :: r) (σ, sz, k, c))) ∧
  (∀ (n : Nat) (l0 l1 l2 : Option Value) (x : Int32)  (σ : zk_S) (sz k c : Nat), zk_run E (zk_VT E) M_X10_depth (C_X10_depth E) P PX K (n + 1) 22 [l0, l1, l2] [.int x] (σ, sz, k, c) = (zk_nok (some (.int)) x ∧ P (some (.int x)) σ sz ∧ k ≤ 1 ∧ c ≤ 6)) ∧
  (∀ (n : Nat) (l0 l1 l2 : Option Value) (r : List Value) (w : zk_W zk_S), zk_go E (zk_VT E) M_X10_depth (C_X10_depth E) P PX K n 0 [l0, l1, l2] r w = zk_run E (zk_VT E) M_X10_depth (C_X10_depth E) P PX K (n + 1) 0 [l0, l1, l2] r w) := ⟨by intros; rfl, by intros; rfl, by intros; rfl, by intros; rfl, by intros; rfl, by intros; rfl, by intros; rfl, by intros; rfl, by intros; rfl, by intros; rfl, by intros; rfl, by intros; rfl, by intros; rfl, by intros; rfl⟩
theorem vc_X10_depth (E : zk_E) : zk_VC E (zk_VT E) M_X10_depth (C_X10_depth E) 3 (sp_X10_depth E) := by
  intro av σ sz P PX h
  obtain ⟨J, N, Q, O, U⟩ := σ
  unfold sp_X10_depth at h
  split at h
  case h_2 => exact h.elim
  rename_i a0 r
  obtain ⟨rfl, h⟩ := h
  refine ⟨Nat.le_of_ble_eq_true rfl, fun G hG => ?_⟩
  change G 0 [some (.ref (zk_ad E 0)), some (.int r), none] [] ((J, N, Q, O, U), sz, 0, 0)
  try dsimp only at h
  obtain ⟨J1, N1, ⟨hmi, hxr, hrk⟩, h⟩ := h
  rcases h with ⟨j, hj, rfl, h⟩ | ⟨hr, h⟩
  · have hj0 := hj
    obtain ⟨b, hb, hbo, hOb⟩ := hxr.2.1.room hmi hj
    have hb : Q 2 j = some b := hb
    have hOb : O b = some (xrm N1 j) := hOb
    have hb1 := hbo.1
    have hj20 := hj.lt hmi
    have in19 : m_isIn (nI j) 0 19 = true := n_isIn (by decide) hj20 (by decide)
    have hin : vp_in (nI j) 20 := n_in hj20 (by decide)
    have hcl : (nI j).toNatClampNeg = j := n_cl (by omega)
    have g0 : ∀ F : Value → Prop, zk_fld (O b) [5] 0 F = F (.int (nI j)) := fun F => by rw [hOb]; simp [zk_fld_o, xrm, cR, zk_nth]
    (refine hG 900 _ _ _ _ ?_; simp only [r_X10_depth, zk_kl_none, zk_kl_int, zk_kl_ref, zk_kl_null, zk_kl_long, zk_kl_rf, zk_isr_ref, zk_isr_null, zk_isr_rf9, zk_c1_int, zk_c1_ref, zk_c1_null, zk_c1_rf, zk_psh_some, zk_psh_none, zk_nok_int, zk_nok_bool0, zk_nok_bool1, zk_nok_b, zk_fok_0, zk_fok_1, zk_fok_2, zk_fok_n, zk_fok_rf, zb_f, zb_p, zb_i, zb_a, zb_s, zk_nth_0, zk_nth_s, zk_fld_o, zk_put_o, zk_rv_eq, zk_ri_eq, zk_is_o, List.mem_cons, List.not_mem_nil, or_false, false_or, or_true, true_or, and_true, true_and, not_false_iff, not_true_eq_false, true_implies, false_implies, imp_self, implies_true, forall_const, zk_lit, zk_uj_ap, zk_un_ap, zk_un_un, zk_uj_uj, Nat.reduceEqDiff, eq_self, zk_bq, Bool.true_or, Bool.false_or, Nat.le_refl, Nat.zero_add, Nat.add_zero, Nat.reduceAdd, Nat.reduceLeDiff, Nat.le_zero_eq, and_self, and_false, false_and, ite_true, ite_false, Nat.zero_le, List.length_cons, List.length_nil, Option.some.injEq, forall_eq', reduceCtorEq, spe_X10_roomThere, in19, hcl, hb, Bool.true_eq_false, zk_vd hb1, g0, spe_X10_reckon])
    refine ⟨J1, N1, fl0 N1, hmi, hxr, hrk, fun J2 N2 hke hcf => ?_⟩
    have h := h J2 N2 hke (Or.inr hcf)
    obtain ⟨h11, h12, h13, h14⟩ := hcf.2.1.2.2 j hj20
    simp only [r_X10_depth, zk_kl_none, zk_kl_int, zk_kl_ref, zk_kl_null, zk_kl_long, zk_kl_rf, zk_isr_ref, zk_isr_null, zk_isr_rf9, zk_c1_int, zk_c1_ref, zk_c1_null, zk_c1_rf, zk_psh_some, zk_psh_none, zk_nok_int, zk_nok_bool0, zk_nok_bool1, zk_nok_b, zk_fok_0, zk_fok_1, zk_fok_2, zk_fok_n, zk_fok_rf, zb_f, zb_p, zb_i, zb_a, zb_s, zk_nth_0, zk_nth_s, zk_fld_o, zk_put_o, zk_rv_eq, zk_ri_eq, zk_is_o, List.mem_cons, List.not_mem_nil, or_false, false_or, or_true, true_or, and_true, true_and, not_false_iff, not_true_eq_false, true_implies, false_implies, imp_self, implies_true, forall_const, zk_lit, zk_uj_ap, zk_un_ap, zk_un_un, zk_uj_uj, Nat.reduceEqDiff, eq_self, zk_bq, Bool.true_or, Bool.false_or, Nat.le_refl, Nat.zero_add, Nat.add_zero, Nat.reduceAdd, Nat.reduceLeDiff, Nat.le_zero_eq, and_self, and_false, false_and, ite_true, ite_false, Nat.zero_le, List.length_cons, List.length_nil, Option.some.injEq, forall_eq', reduceCtorEq, zk_vd hb1, g0, hin, hcl, h14]
    exact h
  · rcases hxr.noroom hmi.1 hr with q | ⟨q, q2⟩
    · (refine hG 900 _ _ _ _ ?_; simp only [r_X10_depth, zk_kl_none, zk_kl_int, zk_kl_ref, zk_kl_null, zk_kl_long, zk_kl_rf, zk_isr_ref, zk_isr_null, zk_isr_rf9, zk_c1_int, zk_c1_ref, zk_c1_null, zk_c1_rf, zk_psh_some, zk_psh_none, zk_nok_int, zk_nok_bool0, zk_nok_bool1, zk_nok_b, zk_fok_0, zk_fok_1, zk_fok_2, zk_fok_n, zk_fok_rf, zb_f, zb_p, zb_i, zb_a, zb_s, zk_nth_0, zk_nth_s, zk_fld_o, zk_put_o, zk_rv_eq, zk_ri_eq, zk_is_o, List.mem_cons, List.not_mem_nil, or_false, false_or, or_true, true_or, and_true, true_and, not_false_iff, not_true_eq_false, true_implies, false_implies, imp_self, implies_true, forall_const, zk_lit, zk_uj_ap, zk_un_ap, zk_un_un, zk_uj_uj, Nat.reduceEqDiff, eq_self, zk_bq, Bool.true_or, Bool.false_or, Nat.le_refl, Nat.zero_add, Nat.add_zero, Nat.reduceAdd, Nat.reduceLeDiff, Nat.le_zero_eq, and_self, and_false, false_and, ite_true, ite_false, Nat.zero_le, List.length_cons, List.length_nil, Option.some.injEq, forall_eq', reduceCtorEq, spe_X10_roomThere, q, Bool.false_eq_true])
      exact fun z2 hz => h J N z2 (KE.refl J N) hrk hz
    · (refine hG 900 _ _ _ _ ?_; simp only [r_X10_depth, zk_kl_none, zk_kl_int, zk_kl_ref, zk_kl_null, zk_kl_long, zk_kl_rf, zk_isr_ref, zk_isr_null, zk_isr_rf9, zk_c1_int, zk_c1_ref, zk_c1_null, zk_c1_rf, zk_psh_some, zk_psh_none, zk_nok_int, zk_nok_bool0, zk_nok_bool1, zk_nok_b, zk_fok_0, zk_fok_1, zk_fok_2, zk_fok_n, zk_fok_rf, zb_f, zb_p, zb_i, zb_a, zb_s, zk_nth_0, zk_nth_s, zk_fld_o, zk_put_o, zk_rv_eq, zk_ri_eq, zk_is_o, List.mem_cons, List.not_mem_nil, or_false, false_or, or_true, true_or, and_true, true_and, not_false_iff, not_true_eq_false, true_implies, false_implies, imp_self, implies_true, forall_const, zk_lit, zk_uj_ap, zk_un_ap, zk_un_un, zk_uj_uj, Nat.reduceEqDiff, eq_self, zk_bq, Bool.true_or, Bool.false_or, Nat.le_refl, Nat.zero_add, Nat.add_zero, Nat.reduceAdd, Nat.reduceLeDiff, Nat.le_zero_eq, and_self, and_false, false_and, ite_true, ite_false, Nat.zero_le, List.length_cons, List.length_nil, Option.some.injEq, forall_eq', reduceCtorEq, spe_X10_roomThere, q, q2])
      exact fun z2 hz => h J N z2 (KE.refl J N) hrk hz
theorem ct_X10_depth {l : Launch} (hl : l.stackTraces = false) (E : zk_E) : zk_C l E (zk_VT E) yX10_depth cX10_depth 3 (some (.int)) rm_X10_depth (sp_X10_depth E) := by
  refine zk_meth (M := M_X10_depth) (C := C_X10_depth E) hl (by decide +kernel) rfl (fun _ _ => rfl) (zk_VT_ok E) MO_X10_depth TO_X10_depth THo_X10_depth ?_ (vc_X10_depth E)
  exact fun p e s m args below meth c X pc n mc ms sp2 h => by
    have h2 := zk_lka_mem h
    simp only [List.mem_cons, List.not_mem_nil, or_false, Prod.mk.injEq] at h2
    rcases h2 with ⟨rfl, rfl, rfl, rfl, rfl⟩ | ⟨rfl, rfl, rfl, rfl, rfl⟩
    · exact zk_coV (idx := 76) X (ct_X10_roomThere hl E) (List.forall_mem_cons.mpr ⟨zk_wi 105 (by decide +kernel) rfl, List.forall_mem_cons.mpr ⟨zk_wi 107 (by decide +kernel) rfl, List.forall_mem_cons.mpr ⟨zk_wp 2 (by decide +kernel) rfl, List.forall_mem_cons.mpr ⟨zk_wi 2 (by decide +kernel) rfl, List.forall_mem_cons.mpr ⟨zk_wi 108 (by decide +kernel) rfl, fun _ h => absurd h List.not_mem_nil⟩⟩⟩⟩⟩) (fun ci h => by
      have h := Nat.eq_of_beq_eq_true h
      subst h
      exact ⟨_, _, rfl⟩) (by decide +kernel) ⟨by decide, by decide, by decide +kernel⟩ ⟨by decide, by decide⟩
    · exact zk_coV (idx := 197) X (ct_X10_reckon hl E) (List.forall_mem_cons.mpr ⟨zk_wi 110 (by decide +kernel) rfl, List.forall_mem_cons.mpr ⟨zk_wi 112 (by decide +kernel) rfl, List.forall_mem_cons.mpr ⟨zk_wp 3 (by decide +kernel) rfl, List.forall_mem_cons.mpr ⟨zk_wi 2 (by decide +kernel) rfl, List.forall_mem_cons.mpr ⟨zk_wi 113 (by decide +kernel) rfl, fun _ h => absurd h List.not_mem_nil⟩⟩⟩⟩⟩) (fun ci h => by
      have h := Nat.eq_of_beq_eq_true h
      subst h
      exact ⟨_, _, rfl⟩) (by decide +kernel) ⟨by decide, by decide, by decide +kernel⟩ ⟨by decide, by decide⟩
def sp_X10_leaving (E : zk_E) : zk_Sp zk_S := fun av σ sz P PX => match av with
  | [.ref a, .int r] => a = zk_ad E 0 ∧ ∃ J N, IC E sz σ J N ∧ RD J N r (fun j => ZC J N σ sz (some (.int (a_leav J N j))) P) (ZX J N σ sz "java/lang/IndexOutOfBoundsException" PX)
  | _ => False
theorem spe_X10_leaving (E : zk_E) (a : Nat) (r : Int32) (σ : zk_S) (sz : Nat) (P : zk_P zk_S) (PX : zk_X zk_S) : sp_X10_leaving E [.ref a, .int r] σ sz P PX = (a = zk_ad E 0 ∧ ∃ J N, IC E sz σ J N ∧ RD J N r (fun j => ZC J N σ sz (some (.int (a_leav J N j))) P) (ZX J N σ sz "java/lang/IndexOutOfBoundsException" PX)) := propext Iff.rfl
def C_X10_leaving (E : zk_E) : zk_Cl zk_S := zk_lka [(2, 2, 1, 6, zk_rv (zk_VT E) (fun ci => Nat.beq ci 9) (sp_X10_roomThere E)), (7, 1, 0, 0, zk_rv (zk_VT E) (fun ci => Nat.beq ci 9) (sp_X10_reckon E)), (15, 2, 0, 0, zk_rv (zk_VT E) (fun ci => Nat.beq ci 9) (sp_X10_leavingOf E))]
theorem r_X10_leaving (E : zk_E) (P : zk_P zk_S) (PX : zk_X zk_S) (K : Nat → zk_L → List Value → zk_W zk_S → Prop) : (∀ (n : Nat) (l1 l2 : Option Value) (y0 : Value) (r : List Value) (σ : zk_S) (sz k c : Nat), zk_run E (zk_VT E) M_X10_leaving (C_X10_leaving E) P PX K (n + 1) 0 [some y0, l1, l2] r (σ, sz, k, c) = (zk_isr y0 ∧ zk_run E (zk_VT E) M_X10_leaving (C_X10_leaving E) P PX K n 1 [some y0, l1, l2] (y0 :: r) (σ, sz, k, c))) ∧
  (∀ (n : Nat) (l0 l2 : Option Value) (y1 : Int32) (r : List Value) (σ : zk_S) (sz k c : Nat), zk_run E (zk_VT E) M_X10_leaving (C_X10_leaving E) P PX K (n + 1) 1 [l0, some (.int y1), l2] r (σ, sz, k, c) = zk_run E (zk_VT E) M_X10_leaving (C_X10_leaving E) P PX K n 2 [l0, some (.int y1), l2] (.int y1 :: r) (σ, sz, k, c)) ∧
  (∀ (n : Nat) (l0 l1 l2 : Option Value) (v0 : Value) (v1 : Value)  (σ : zk_S) (sz k c : Nat), zk_run E (zk_VT E) M_X10_leaving (C_X10_leaving E) P PX K (n + 1) 2 [l0, l1, l2] [v0, v1] (σ, sz, k, c) = (k + 1 ≤ 1 ∧ c + 6 ≤ 6 ∧ (zk_rv (zk_VT E) (fun ci => Nat.beq ci 9) (sp_X10_roomThere E)) [v1, v0] σ sz (fun v s2 z2 => zk_run E (zk_VT E) M_X10_leaving (C_X10_leaving E) P PX K n 5 [l0, l1, l2] (zk_psh v []) (s2, z2, k + 1, c + 6)) (fun X s2 z2 => PX X s2 z2))) ∧
  (∀ (n : Nat) (l0 l1 l2 : Option Value) (x : Value) (r : List Value) (σ : zk_S) (sz k c : Nat), zk_run E (zk_VT E) M_X10_leaving (C_X10_leaving E) P PX K (n + 1) 5 [l0, l1, l2] (x :: r) (σ, sz, k, c) = (zk_isr x ∧ zk_run E (zk_VT E) M_X10_leaving (C_X10_leaving E) P PX K n 6 [l0, zk_kl l1, some (x)] r (σ, sz, k, c))) ∧
  (∀ (n : Nat) (l1 l2 : Option Value) (y0 : Value) (r : List Value) (σ : zk_S) (sz k c : Nat), zk_run E (zk_VT E) M_X10_leaving (C_X10_leaving E) P PX K (n + 1) 6 [some y0, l1, l2] r (σ, sz, k, c) = (zk_isr y0 ∧ zk_run E (zk_VT E) M_X10_leaving (C_X10_leaving E) P PX K n 7 [some y0, l1, l2] (y0 :: r) (σ, sz, k, c))) ∧
  (∀ (n : Nat) (l0 l1 l2 : Option Value) (v0 : Value)  (σ : zk_S) (sz k c : Nat), zk_run E (zk_VT E) M_X10_leaving (C_X10_leaving E) P PX K (n + 1) 7 [l0, l1, l2] [v0] (σ, sz, k, c) = (k + 0 ≤ 1 ∧ c + 0 ≤ 6 ∧ (zk_rv (zk_VT E) (fun ci => Nat.beq ci 9) (sp_X10_reckon E)) [v0] σ sz (fun v s2 z2 => zk_run E (zk_VT E) M_X10_leaving (C_X10_leaving E) P PX K n 10 [l0, l1, l2] (zk_psh v []) (s2, z2, k + 0, c + 0)) (fun X s2 z2 => PX X s2 z2))) ∧
  (∀ (n : Nat) (l1 l2 : Option Value) (y0 : Value) (r : List Value) (σ : zk_S) (sz k c : Nat), zk_run E (zk_VT E) M_X10_leaving (C_X10_leaving E) P PX K (n + 1) 10 [some y0, l1, l2] r (σ, sz, k, c) = (zk_isr y0 ∧ zk_run E (zk_VT E) M_X10_leaving (C_X10_leaving E) P PX K n 11 [some y0, l1, l2] (y0 :: r) (σ, sz, k, c))) ∧
  (∀ (n : Nat) (l0 l1 : Option Value) (y2 : Value) (r : List Value) (σ : zk_S) (sz k c : Nat), zk_run E (zk_VT E) M_X10_leaving (C_X10_leaving E) P PX K (n + 1) 11 [l0, l1, some y2] r (σ, sz, k, c) = (zk_isr y2 ∧ zk_run E (zk_VT E) M_X10_leaving (C_X10_leaving E) P PX K n 12 [l0, l1, some y2] (y2 :: r) (σ, sz, k, c))) ∧
  (∀ (n : Nat) (l0 l1 l2 : Option Value) (a : Nat) (r : List Value) (σ : zk_S) (sz k c : Nat), zk_run E (zk_VT E) M_X10_leaving (C_X10_leaving E) P PX K (n + 1) 12 [l0, l1, l2] (.ref a :: r) (σ, sz, k, c) = zk_fld (zk_view E σ a) [5] 0 (fun v => zk_run E (zk_VT E) M_X10_leaving (C_X10_leaving E) P PX K n 15 [l0, l1, l2] (v :: r) (σ, sz, k, c))) ∧
  (∀ (n : Nat) (l0 l1 l2 : Option Value) (v0 : Value) (v1 : Value)  (σ : zk_S) (sz k c : Nat), zk_run E (zk_VT E) M_X10_leaving (C_X10_leaving E) P PX K (n + 1) 15 [l0, l1, l2] [v0, v1] (σ, sz, k, c) = (k + 0 ≤ 1 ∧ c + 0 ≤ 6 ∧ (zk_rv (zk_VT E) (fun ci => Nat.beq ci 9) (sp_X10_leavingOf E)) [v1, v0] σ sz (fun v s2 z2 => zk_run E (zk_VT E) M_X10_leaving (C_X10_leaving E) P PX K n 18 [l0, l1, l2] (zk_psh v []) (s2, z2, k + 0, c + 0)) (fun X s2 z2 => PX X s2 z2))) ∧
  (∀ (n : Nat) (l0 l1 l2 : Option Value) (x : Int32)  (σ : zk_S) (sz k c : Nat), zk_run E (zk_VT E) M_X10_leaving (C_X10_leaving E) P PX K (n + 1) 18 [l0, l1, l2] [.int x] (σ, sz, k, c) = (zk_nok (some (.int)) x ∧ P (some (.int x)) σ sz ∧ k ≤ 1 ∧ c ≤ 6)) ∧
  (∀ (n : Nat) (l0 l1 l2 : Option Value) (r : List Value) (w : zk_W zk_S), zk_go E (zk_VT E) M_X10_leaving (C_X10_leaving E) P PX K n 0 [l0, l1, l2] r w = zk_run E (zk_VT E) M_X10_leaving (C_X10_leaving E) P PX K (n + 1) 0 [l0, l1, l2] r w) := ⟨by intros; rfl, by intros; rfl, by intros; rfl, by intros; rfl, by intros; rfl, by intros; rfl, by intros; rfl, by intros; rfl, by intros; rfl, by intros; rfl, by intros; rfl, by intros; rfl⟩
theorem vc_X10_leaving (E : zk_E) : zk_VC E (zk_VT E) M_X10_leaving (C_X10_leaving E) 3 (sp_X10_leaving E) := by
  intro av σ sz P PX h
  obtain ⟨J, N, Q, O, U⟩ := σ
  unfold sp_X10_leaving at h
  split at h
  case h_2 => exact h.elim
  rename_i a0 r
  obtain ⟨rfl, h⟩ := h
  refine ⟨Nat.le_of_ble_eq_true rfl, fun G hG => ?_⟩
  change G 0 [some (.ref (zk_ad E 0)), some (.int r), none] [] ((J, N, Q, O, U), sz, 0, 0)
  try dsimp only at h
  obtain ⟨J1, N1, ⟨hmi, hxr, hrk⟩, h⟩ := h
  rcases h with ⟨j, hj, rfl, h⟩ | ⟨hr, h⟩
  · have hj0 := hj
    obtain ⟨b, hb, hbo, hOb⟩ := hxr.2.1.room hmi hj
    have hb : Q 2 j = some b := hb
    have hOb : O b = some (xrm N1 j) := hOb
    have hb1 := hbo.1
    have hj20 := hj.lt hmi
    have in19 : m_isIn (nI j) 0 19 = true := n_isIn (by decide) hj20 (by decide)
    have hin : vp_in (nI j) 20 := n_in hj20 (by decide)
    have hcl : (nI j).toNatClampNeg = j := n_cl (by omega)
    have g0 : ∀ F : Value → Prop, zk_fld (O b) [5] 0 F = F (.int (nI j)) := fun F => by rw [hOb]; simp [zk_fld_o, xrm, cR, zk_nth]
    (refine hG 900 _ _ _ _ ?_; simp only [r_X10_leaving, zk_kl_none, zk_kl_int, zk_kl_ref, zk_kl_null, zk_kl_long, zk_kl_rf, zk_isr_ref, zk_isr_null, zk_isr_rf9, zk_c1_int, zk_c1_ref, zk_c1_null, zk_c1_rf, zk_psh_some, zk_psh_none, zk_nok_int, zk_nok_bool0, zk_nok_bool1, zk_nok_b, zk_fok_0, zk_fok_1, zk_fok_2, zk_fok_n, zk_fok_rf, zb_f, zb_p, zb_i, zb_a, zb_s, zk_nth_0, zk_nth_s, zk_fld_o, zk_put_o, zk_rv_eq, zk_ri_eq, zk_is_o, List.mem_cons, List.not_mem_nil, or_false, false_or, or_true, true_or, and_true, true_and, not_false_iff, not_true_eq_false, true_implies, false_implies, imp_self, implies_true, forall_const, zk_lit, zk_uj_ap, zk_un_ap, zk_un_un, zk_uj_uj, Nat.reduceEqDiff, eq_self, zk_bq, Bool.true_or, Bool.false_or, Nat.le_refl, Nat.zero_add, Nat.add_zero, Nat.reduceAdd, Nat.reduceLeDiff, Nat.le_zero_eq, and_self, and_false, false_and, ite_true, ite_false, Nat.zero_le, List.length_cons, List.length_nil, Option.some.injEq, forall_eq', reduceCtorEq, spe_X10_roomThere, in19, hcl, hb, Bool.true_eq_false, zk_vd hb1, g0, spe_X10_reckon])
    refine ⟨J1, N1, fl0 N1, hmi, hxr, hrk, fun J2 N2 hke hcf => ?_⟩
    have h := h J2 N2 hke (Or.inr hcf)
    obtain ⟨h11, h12, h13, h14⟩ := hcf.2.1.2.2 j hj20
    simp only [r_X10_leaving, zk_kl_none, zk_kl_int, zk_kl_ref, zk_kl_null, zk_kl_long, zk_kl_rf, zk_isr_ref, zk_isr_null, zk_isr_rf9, zk_c1_int, zk_c1_ref, zk_c1_null, zk_c1_rf, zk_psh_some, zk_psh_none, zk_nok_int, zk_nok_bool0, zk_nok_bool1, zk_nok_b, zk_fok_0, zk_fok_1, zk_fok_2, zk_fok_n, zk_fok_rf, zb_f, zb_p, zb_i, zb_a, zb_s, zk_nth_0, zk_nth_s, zk_fld_o, zk_put_o, zk_rv_eq, zk_ri_eq, zk_is_o, List.mem_cons, List.not_mem_nil, or_false, false_or, or_true, true_or, and_true, true_and, not_false_iff, not_true_eq_false, true_implies, false_implies, imp_self, implies_true, forall_const, zk_lit, zk_uj_ap, zk_un_ap, zk_un_un, zk_uj_uj, Nat.reduceEqDiff, eq_self, zk_bq, Bool.true_or, Bool.false_or, Nat.le_refl, Nat.zero_add, Nat.add_zero, Nat.reduceAdd, Nat.reduceLeDiff, Nat.le_zero_eq, and_self, and_false, false_and, ite_true, ite_false, Nat.zero_le, List.length_cons, List.length_nil, Option.some.injEq, forall_eq', reduceCtorEq, zk_vd hb1, g0, spe_X10_leavingOf]
    refine ⟨J1, N1, j, hcf.2.1, hj20, rfl, ?_⟩
    exact h
  · rcases hxr.noroom hmi.1 hr with q | ⟨q, q2⟩
    · (refine hG 900 _ _ _ _ ?_; simp only [r_X10_leaving, zk_kl_none, zk_kl_int, zk_kl_ref, zk_kl_null, zk_kl_long, zk_kl_rf, zk_isr_ref, zk_isr_null, zk_isr_rf9, zk_c1_int, zk_c1_ref, zk_c1_null, zk_c1_rf, zk_psh_some, zk_psh_none, zk_nok_int, zk_nok_bool0, zk_nok_bool1, zk_nok_b, zk_fok_0, zk_fok_1, zk_fok_2, zk_fok_n, zk_fok_rf, zb_f, zb_p, zb_i, zb_a, zb_s, zk_nth_0, zk_nth_s, zk_fld_o, zk_put_o, zk_rv_eq, zk_ri_eq, zk_is_o, List.mem_cons, List.not_mem_nil, or_false, false_or, or_true, true_or, and_true, true_and, not_false_iff, not_true_eq_false, true_implies, false_implies, imp_self, implies_true, forall_const, zk_lit, zk_uj_ap, zk_un_ap, zk_un_un, zk_uj_uj, Nat.reduceEqDiff, eq_self, zk_bq, Bool.true_or, Bool.false_or, Nat.le_refl, Nat.zero_add, Nat.add_zero, Nat.reduceAdd, Nat.reduceLeDiff, Nat.le_zero_eq, and_self, and_false, false_and, ite_true, ite_false, Nat.zero_le, List.length_cons, List.length_nil, Option.some.injEq, forall_eq', reduceCtorEq, spe_X10_roomThere, q, Bool.false_eq_true])
      exact fun z2 hz => h J N z2 (KE.refl J N) hrk hz
    · (refine hG 900 _ _ _ _ ?_; simp only [r_X10_leaving, zk_kl_none, zk_kl_int, zk_kl_ref, zk_kl_null, zk_kl_long, zk_kl_rf, zk_isr_ref, zk_isr_null, zk_isr_rf9, zk_c1_int, zk_c1_ref, zk_c1_null, zk_c1_rf, zk_psh_some, zk_psh_none, zk_nok_int, zk_nok_bool0, zk_nok_bool1, zk_nok_b, zk_fok_0, zk_fok_1, zk_fok_2, zk_fok_n, zk_fok_rf, zb_f, zb_p, zb_i, zb_a, zb_s, zk_nth_0, zk_nth_s, zk_fld_o, zk_put_o, zk_rv_eq, zk_ri_eq, zk_is_o, List.mem_cons, List.not_mem_nil, or_false, false_or, or_true, true_or, and_true, true_and, not_false_iff, not_true_eq_false, true_implies, false_implies, imp_self, implies_true, forall_const, zk_lit, zk_uj_ap, zk_un_ap, zk_un_un, zk_uj_uj, Nat.reduceEqDiff, eq_self, zk_bq, Bool.true_or, Bool.false_or, Nat.le_refl, Nat.zero_add, Nat.add_zero, Nat.reduceAdd, Nat.reduceLeDiff, Nat.le_zero_eq, and_self, and_false, false_and, ite_true, ite_false, Nat.zero_le, List.length_cons, List.length_nil, Option.some.injEq, forall_eq', reduceCtorEq, spe_X10_roomThere, q, q2])
      exact fun z2 hz => h J N z2 (KE.refl J N) hrk hz
theorem ct_X10_leaving {l : Launch} (hl : l.stackTraces = false) (E : zk_E) : zk_C l E (zk_VT E) yX10_leaving cX10_leaving 3 (some (.int)) rm_X10_leaving (sp_X10_leaving E) := by
  refine zk_meth (M := M_X10_leaving) (C := C_X10_leaving E) hl (by decide +kernel) rfl (fun _ _ => rfl) (zk_VT_ok E) MO_X10_leaving TO_X10_leaving THo_X10_leaving ?_ (vc_X10_leaving E)
  exact fun p e s m args below meth c X pc n mc ms sp2 h => by
    have h2 := zk_lka_mem h
    simp only [List.mem_cons, List.not_mem_nil, or_false, Prod.mk.injEq] at h2
    rcases h2 with ⟨rfl, rfl, rfl, rfl, rfl⟩ | ⟨rfl, rfl, rfl, rfl, rfl⟩ | ⟨rfl, rfl, rfl, rfl, rfl⟩
    · exact zk_coV (idx := 76) X (ct_X10_roomThere hl E) (List.forall_mem_cons.mpr ⟨zk_wi 105 (by decide +kernel) rfl, List.forall_mem_cons.mpr ⟨zk_wi 107 (by decide +kernel) rfl, List.forall_mem_cons.mpr ⟨zk_wp 2 (by decide +kernel) rfl, List.forall_mem_cons.mpr ⟨zk_wi 2 (by decide +kernel) rfl, List.forall_mem_cons.mpr ⟨zk_wi 108 (by decide +kernel) rfl, fun _ h => absurd h List.not_mem_nil⟩⟩⟩⟩⟩) (fun ci h => by
      have h := Nat.eq_of_beq_eq_true h
      subst h
      exact ⟨_, _, rfl⟩) (by decide +kernel) ⟨by decide, by decide, by decide +kernel⟩ ⟨by decide, by decide⟩
    · exact zk_coV (idx := 197) X (ct_X10_reckon hl E) (List.forall_mem_cons.mpr ⟨zk_wi 110 (by decide +kernel) rfl, List.forall_mem_cons.mpr ⟨zk_wi 112 (by decide +kernel) rfl, List.forall_mem_cons.mpr ⟨zk_wp 3 (by decide +kernel) rfl, List.forall_mem_cons.mpr ⟨zk_wi 2 (by decide +kernel) rfl, List.forall_mem_cons.mpr ⟨zk_wi 113 (by decide +kernel) rfl, fun _ h => absurd h List.not_mem_nil⟩⟩⟩⟩⟩) (fun ci h => by
      have h := Nat.eq_of_beq_eq_true h
      subst h
      exact ⟨_, _, rfl⟩) (by decide +kernel) ⟨by decide, by decide, by decide +kernel⟩ ⟨by decide, by decide⟩
    · exact zk_coV (idx := 206) X (ct_X10_leavingOf hl E) (List.forall_mem_cons.mpr ⟨zk_wi 233 (by decide +kernel) rfl, List.forall_mem_cons.mpr ⟨zk_wi 235 (by decide +kernel) rfl, List.forall_mem_cons.mpr ⟨zk_wp 4 (by decide +kernel) rfl, List.forall_mem_cons.mpr ⟨zk_wi 2 (by decide +kernel) rfl, List.forall_mem_cons.mpr ⟨zk_wi 236 (by decide +kernel) rfl, fun _ h => absurd h List.not_mem_nil⟩⟩⟩⟩⟩) (fun ci h => by
      have h := Nat.eq_of_beq_eq_true h
      subst h
      exact ⟨_, _, rfl⟩) (by decide +kernel) ⟨by decide, by decide, by decide +kernel⟩ ⟨by decide, by decide⟩
def sp_X10_way (E : zk_E) : zk_Sp zk_S := fun av σ sz P PX => match av with
  | [.ref a, .int r, .int q] => a = zk_ad E 0 ∧ (q = 0 ∨ q = 1) ∧ ∃ J N, IC E sz σ J N ∧ DRD J N r (fun j => ZC J N σ sz (some (.int (a_way J N (2 * j + q.toNatClampNeg)))) P) (ZX J N σ sz "java/lang/IndexOutOfBoundsException" PX)
  | _ => False
theorem spe_X10_way (E : zk_E) (a : Nat) (r : Int32) (q : Int32) (σ : zk_S) (sz : Nat) (P : zk_P zk_S) (PX : zk_X zk_S) : sp_X10_way E [.ref a, .int r, .int q] σ sz P PX = (a = zk_ad E 0 ∧ (q = 0 ∨ q = 1) ∧ ∃ J N, IC E sz σ J N ∧ DRD J N r (fun j => ZC J N σ sz (some (.int (a_way J N (2 * j + q.toNatClampNeg)))) P) (ZX J N σ sz "java/lang/IndexOutOfBoundsException" PX)) := propext Iff.rfl
def C_X10_way (E : zk_E) : zk_Cl zk_S := zk_lka [(2, 2, 1, 6, zk_rv (zk_VT E) (fun ci => Nat.beq ci 9) (sp_X10_doorThere E)), (7, 1, 0, 0, zk_rv (zk_VT E) (fun ci => Nat.beq ci 9) (sp_X10_reckon E))]
theorem r_X10_way (E : zk_E) (P : zk_P zk_S) (PX : zk_X zk_S) (K : Nat → zk_L → List Value → zk_W zk_S → Prop) : (∀ (n : Nat) (l1 l2 : Option Value) (y0 : Value) (r : List Value) (σ : zk_S) (sz k c : Nat), zk_run E (zk_VT E) M_X10_way (C_X10_way E) P PX K (n + 1) 0 [some y0, l1, l2] r (σ, sz, k, c) = (zk_isr y0 ∧ zk_run E (zk_VT E) M_X10_way (C_X10_way E) P PX K n 1 [some y0, l1, l2] (y0 :: r) (σ, sz, k, c))) ∧
  (∀ (n : Nat) (l0 l2 : Option Value) (y1 : Int32) (r : List Value) (σ : zk_S) (sz k c : Nat), zk_run E (zk_VT E) M_X10_way (C_X10_way E) P PX K (n + 1) 1 [l0, some (.int y1), l2] r (σ, sz, k, c) = zk_run E (zk_VT E) M_X10_way (C_X10_way E) P PX K n 2 [l0, some (.int y1), l2] (.int y1 :: r) (σ, sz, k, c)) ∧
  (∀ (n : Nat) (l0 l1 l2 : Option Value) (v0 : Value) (v1 : Value)  (σ : zk_S) (sz k c : Nat), zk_run E (zk_VT E) M_X10_way (C_X10_way E) P PX K (n + 1) 2 [l0, l1, l2] [v0, v1] (σ, sz, k, c) = (k + 1 ≤ 1 ∧ c + 6 ≤ 6 ∧ (zk_rv (zk_VT E) (fun ci => Nat.beq ci 9) (sp_X10_doorThere E)) [v1, v0] σ sz (fun v s2 z2 => zk_run E (zk_VT E) M_X10_way (C_X10_way E) P PX K n 5 [l0, l1, l2] (zk_psh v []) (s2, z2, k + 1, c + 6)) (fun X s2 z2 => PX X s2 z2))) ∧
  (∀ (n : Nat) (l0 l1 l2 : Option Value) (v : Value) (r : List Value) (σ : zk_S) (sz k c : Nat), zk_run E (zk_VT E) M_X10_way (C_X10_way E) P PX K (n + 1) 5 [l0, l1, l2] (v :: r) (σ, sz, k, c) = (zk_c1 v ∧ zk_run E (zk_VT E) M_X10_way (C_X10_way E) P PX K n 6 [l0, l1, l2] r (σ, sz, k, c))) ∧
  (∀ (n : Nat) (l1 l2 : Option Value) (y0 : Value) (r : List Value) (σ : zk_S) (sz k c : Nat), zk_run E (zk_VT E) M_X10_way (C_X10_way E) P PX K (n + 1) 6 [some y0, l1, l2] r (σ, sz, k, c) = (zk_isr y0 ∧ zk_run E (zk_VT E) M_X10_way (C_X10_way E) P PX K n 7 [some y0, l1, l2] (y0 :: r) (σ, sz, k, c))) ∧
  (∀ (n : Nat) (l0 l1 l2 : Option Value) (v0 : Value)  (σ : zk_S) (sz k c : Nat), zk_run E (zk_VT E) M_X10_way (C_X10_way E) P PX K (n + 1) 7 [l0, l1, l2] [v0] (σ, sz, k, c) = (k + 0 ≤ 1 ∧ c + 0 ≤ 6 ∧ (zk_rv (zk_VT E) (fun ci => Nat.beq ci 9) (sp_X10_reckon E)) [v0] σ sz (fun v s2 z2 => zk_run E (zk_VT E) M_X10_way (C_X10_way E) P PX K n 10 [l0, l1, l2] (zk_psh v []) (s2, z2, k + 0, c + 0)) (fun X s2 z2 => PX X s2 z2))) ∧
  (∀ (n : Nat) (l0 l1 : Option Value) (y2 : Int32) (r : List Value) (σ : zk_S) (sz k c : Nat), zk_run E (zk_VT E) M_X10_way (C_X10_way E) P PX K (n + 1) 10 [l0, l1, some (.int y2)] r (σ, sz, k, c) = zk_run E (zk_VT E) M_X10_way (C_X10_way E) P PX K n 11 [l0, l1, some (.int y2)] (.int y2 :: r) (σ, sz, k, c)) ∧
  (∀ (n : Nat) (l0 l1 l2 : Option Value) (x : Int32) (r : List Value) (σ : zk_S) (sz k c : Nat), zk_run E (zk_VT E) M_X10_way (C_X10_way E) P PX K (n + 1) 11 [l0, l1, l2] (.int x :: r) (σ, sz, k, c) = ((x = 0 → zk_run E (zk_VT E) M_X10_way (C_X10_way E) P PX K n 26 [l0, l1, l2] r (σ, sz, k, c)) ∧ (¬ (x = 0) → zk_run E (zk_VT E) M_X10_way (C_X10_way E) P PX K n 14 [l0, l1, l2] r (σ, sz, k, c)))) ∧
  (∀ (n : Nat) (l1 l2 : Option Value) (y0 : Value) (r : List Value) (σ : zk_S) (sz k c : Nat), zk_run E (zk_VT E) M_X10_way (C_X10_way E) P PX K (n + 1) 14 [some y0, l1, l2] r (σ, sz, k, c) = (zk_isr y0 ∧ zk_run E (zk_VT E) M_X10_way (C_X10_way E) P PX K n 15 [some y0, l1, l2] (y0 :: r) (σ, sz, k, c))) ∧
  (∀ (n : Nat) (l0 l1 l2 : Option Value) (a : Nat) (r : List Value) (σ : zk_S) (sz k c : Nat), zk_run E (zk_VT E) M_X10_way (C_X10_way E) P PX K (n + 1) 15 [l0, l1, l2] (.ref a :: r) (σ, sz, k, c) = zk_fld (zk_view E σ a) [9] 1 (fun v => zk_run E (zk_VT E) M_X10_way (C_X10_way E) P PX K n 18 [l0, l1, l2] (v :: r) (σ, sz, k, c))) ∧
  (∀ (n : Nat) (l0 l1 l2 : Option Value) (a : Nat) (r : List Value) (σ : zk_S) (sz k c : Nat), zk_run E (zk_VT E) M_X10_way (C_X10_way E) P PX K (n + 1) 18 [l0, l1, l2] (.ref a :: r) (σ, sz, k, c) = zk_fld (zk_view E σ a) [7] 1 (fun v => zk_run E (zk_VT E) M_X10_way (C_X10_way E) P PX K n 21 [l0, l1, l2] (v :: r) (σ, sz, k, c))) ∧
  (∀ (n : Nat) (l0 l2 : Option Value) (y1 : Int32) (r : List Value) (σ : zk_S) (sz k c : Nat), zk_run E (zk_VT E) M_X10_way (C_X10_way E) P PX K (n + 1) 21 [l0, some (.int y1), l2] r (σ, sz, k, c) = zk_run E (zk_VT E) M_X10_way (C_X10_way E) P PX K n 22 [l0, some (.int y1), l2] (.int y1 :: r) (σ, sz, k, c)) ∧
  (∀ (n : Nat) (l0 l1 l2 : Option Value) (a : Nat) (i : Int32) (r : List Value) (σ : zk_S) (sz k c : Nat), zk_run E (zk_VT E) M_X10_way (C_X10_way E) P PX K (n + 1) 22 [l0, l1, l2] (.int i :: .ref a :: r) (σ, sz, k, c) = zk_ild (zk_view E σ a) (zk_ar E 0) i (fun x => zk_run E (zk_VT E) M_X10_way (C_X10_way E) P PX K n 23 [l0, l1, l2] (.int x :: r) (σ, sz, k, c))) ∧
  (∀ (n : Nat) (l0 l1 l2 : Option Value)  (r : List Value) (σ : zk_S) (sz k c : Nat), zk_run E (zk_VT E) M_X10_way (C_X10_way E) P PX K (n + 1) 23 [l0, l1, l2] r (σ, sz, k, c) = zk_run E (zk_VT E) M_X10_way (C_X10_way E) P PX K n 35 [l0, l1, l2] r (σ, sz, k, c)) ∧
  (∀ (n : Nat) (l1 l2 : Option Value) (y0 : Value) (r : List Value) (σ : zk_S) (sz k c : Nat), zk_run E (zk_VT E) M_X10_way (C_X10_way E) P PX K (n + 1) 26 [some y0, l1, l2] r (σ, sz, k, c) = (zk_isr y0 ∧ zk_run E (zk_VT E) M_X10_way (C_X10_way E) P PX K n 27 [some y0, l1, l2] (y0 :: r) (σ, sz, k, c))) ∧
  (∀ (n : Nat) (l0 l1 l2 : Option Value) (a : Nat) (r : List Value) (σ : zk_S) (sz k c : Nat), zk_run E (zk_VT E) M_X10_way (C_X10_way E) P PX K (n + 1) 27 [l0, l1, l2] (.ref a :: r) (σ, sz, k, c) = zk_fld (zk_view E σ a) [9] 1 (fun v => zk_run E (zk_VT E) M_X10_way (C_X10_way E) P PX K n 30 [l0, l1, l2] (v :: r) (σ, sz, k, c))) ∧
  (∀ (n : Nat) (l0 l1 l2 : Option Value) (a : Nat) (r : List Value) (σ : zk_S) (sz k c : Nat), zk_run E (zk_VT E) M_X10_way (C_X10_way E) P PX K (n + 1) 30 [l0, l1, l2] (.ref a :: r) (σ, sz, k, c) = zk_fld (zk_view E σ a) [7] 0 (fun v => zk_run E (zk_VT E) M_X10_way (C_X10_way E) P PX K n 33 [l0, l1, l2] (v :: r) (σ, sz, k, c))) ∧
  (∀ (n : Nat) (l0 l2 : Option Value) (y1 : Int32) (r : List Value) (σ : zk_S) (sz k c : Nat), zk_run E (zk_VT E) M_X10_way (C_X10_way E) P PX K (n + 1) 33 [l0, some (.int y1), l2] r (σ, sz, k, c) = zk_run E (zk_VT E) M_X10_way (C_X10_way E) P PX K n 34 [l0, some (.int y1), l2] (.int y1 :: r) (σ, sz, k, c)) ∧
  (∀ (n : Nat) (l0 l1 l2 : Option Value) (a : Nat) (i : Int32) (r : List Value) (σ : zk_S) (sz k c : Nat), zk_run E (zk_VT E) M_X10_way (C_X10_way E) P PX K (n + 1) 34 [l0, l1, l2] (.int i :: .ref a :: r) (σ, sz, k, c) = zk_ild (zk_view E σ a) (zk_ar E 0) i (fun x => zk_run E (zk_VT E) M_X10_way (C_X10_way E) P PX K n 35 [l0, l1, l2] (.int x :: r) (σ, sz, k, c))) ∧
  (∀ (n : Nat) (l0 l1 l2 : Option Value) (x : Int32)  (σ : zk_S) (sz k c : Nat), zk_run E (zk_VT E) M_X10_way (C_X10_way E) P PX K (n + 1) 35 [l0, l1, l2] [.int x] (σ, sz, k, c) = (zk_nok (some (.int)) x ∧ P (some (.int x)) σ sz ∧ k ≤ 1 ∧ c ≤ 6)) ∧
  (∀ (n : Nat) (l0 l1 l2 : Option Value) (r : List Value) (w : zk_W zk_S), zk_go E (zk_VT E) M_X10_way (C_X10_way E) P PX K n 0 [l0, l1, l2] r w = zk_run E (zk_VT E) M_X10_way (C_X10_way E) P PX K (n + 1) 0 [l0, l1, l2] r w) := ⟨by intros; rfl, by intros; rfl, by intros; rfl, by intros; rfl, by intros; rfl, by intros; rfl, by intros; rfl, by intros; rfl, by intros; rfl, by intros; rfl, by intros; rfl, by intros; rfl, by intros; rfl, by intros; rfl, by intros; rfl, by intros; rfl, by intros; rfl, by intros; rfl, by intros; rfl, by intros; rfl, by intros; rfl⟩
theorem vc_X10_way (E : zk_E) : zk_VC E (zk_VT E) M_X10_way (C_X10_way E) 3 (sp_X10_way E) := by
  intro av σ sz P PX h
  obtain ⟨J, N, Q, O, U⟩ := σ
  unfold sp_X10_way at h
  split at h
  case h_2 => exact h.elim
  rename_i a0 r q
  obtain ⟨rfl, h⟩ := h
  refine ⟨Nat.le_of_ble_eq_true rfl, fun G hG => ?_⟩
  change G 0 [some (.ref (zk_ad E 0)), some (.int r), some (.int q)] [] ((J, N, Q, O, U), sz, 0, 0)
  try dsimp only at h
  obtain ⟨hq, J1, N1, ⟨hmi, hxr, hrk⟩, h⟩ := h
  rcases h with ⟨j, hj, rfl, h⟩ | ⟨hr, h⟩
  · have hj0 := hj
    obtain ⟨b, p, hb, hbo, hpo, hOb, hOp⟩ := hxr.2.2.1.door hmi.1 hj
    have hb : Q 3 j = some b := hb
    have hOb : O b = some (xdr N1 Q (fl0 N1) j p) := hOb
    have hb1 := hbo.1
    have hj40 := hj.lt hmi.1
    have in19 : m_isIn (nI j) 0 39 = true := n_isIn (by decide) hj40 (by decide)
    have hin : vp_in (nI j) 50 := n_in (by omega) (by decide)
    have hcl : (nI j).toNatClampNeg = j := n_cl (by omega)
    rcases hq with rfl | rfl
    · (refine hG 900 _ _ _ _ ?_; simp only [r_X10_way, zk_kl_none, zk_kl_int, zk_kl_ref, zk_kl_null, zk_kl_long, zk_kl_rf, zk_isr_ref, zk_isr_null, zk_isr_rf9, zk_c1_int, zk_c1_ref, zk_c1_null, zk_c1_rf, zk_psh_some, zk_psh_none, zk_nok_int, zk_nok_bool0, zk_nok_bool1, zk_nok_b, zk_fok_0, zk_fok_1, zk_fok_2, zk_fok_n, zk_fok_rf, zb_f, zb_p, zb_i, zb_a, zb_s, zk_nth_0, zk_nth_s, zk_fld_o, zk_put_o, zk_rv_eq, zk_ri_eq, zk_is_o, List.mem_cons, List.not_mem_nil, or_false, false_or, or_true, true_or, and_true, true_and, not_false_iff, not_true_eq_false, true_implies, false_implies, imp_self, implies_true, forall_const, zk_lit, zk_uj_ap, zk_un_ap, zk_un_un, zk_uj_uj, Nat.reduceEqDiff, eq_self, zk_bq, Bool.true_or, Bool.false_or, Nat.le_refl, Nat.zero_add, Nat.add_zero, Nat.reduceAdd, Nat.reduceLeDiff, Nat.le_zero_eq, and_self, and_false, false_and, ite_true, ite_false, Nat.zero_le, List.length_cons, List.length_nil, Option.some.injEq, forall_eq', reduceCtorEq, spe_X10_doorThere, in19, hcl, hb, Bool.true_eq_false, spe_X10_reckon])
      refine ⟨J1, N1, fl0 N1, hmi, hxr, hrk, fun J2 N2 hke hcf => ?_⟩
      have h := h J2 N2 hke (Or.inr hcf)
      have h8 := (hcf.2.1.1 j (by omega)).1
      simp only [r_X10_way, zk_kl_none, zk_kl_int, zk_kl_ref, zk_kl_null, zk_kl_long, zk_kl_rf, zk_isr_ref, zk_isr_null, zk_isr_rf9, zk_c1_int, zk_c1_ref, zk_c1_null, zk_c1_rf, zk_psh_some, zk_psh_none, zk_nok_int, zk_nok_bool0, zk_nok_bool1, zk_nok_b, zk_fok_0, zk_fok_1, zk_fok_2, zk_fok_n, zk_fok_rf, zb_f, zb_p, zb_i, zb_a, zb_s, zk_nth_0, zk_nth_s, zk_fld_o, zk_put_o, zk_rv_eq, zk_ri_eq, zk_is_o, List.mem_cons, List.not_mem_nil, or_false, false_or, or_true, true_or, and_true, true_and, not_false_iff, not_true_eq_false, true_implies, false_implies, imp_self, implies_true, forall_const, zk_lit, zk_uj_ap, zk_un_ap, zk_un_un, zk_uj_uj, Nat.reduceEqDiff, eq_self, zk_bq, Bool.true_or, Bool.false_or, Nat.le_refl, Nat.zero_add, Nat.add_zero, Nat.reduceAdd, Nat.reduceLeDiff, Nat.le_zero_eq, and_self, and_false, false_and, ite_true, ite_false, Nat.zero_le, List.length_cons, List.length_nil, Option.some.injEq, forall_eq', reduceCtorEq, hin, hcl, h8]
      exact h
    · (refine hG 900 _ _ _ _ ?_; simp only [r_X10_way, zk_kl_none, zk_kl_int, zk_kl_ref, zk_kl_null, zk_kl_long, zk_kl_rf, zk_isr_ref, zk_isr_null, zk_isr_rf9, zk_c1_int, zk_c1_ref, zk_c1_null, zk_c1_rf, zk_psh_some, zk_psh_none, zk_nok_int, zk_nok_bool0, zk_nok_bool1, zk_nok_b, zk_fok_0, zk_fok_1, zk_fok_2, zk_fok_n, zk_fok_rf, zb_f, zb_p, zb_i, zb_a, zb_s, zk_nth_0, zk_nth_s, zk_fld_o, zk_put_o, zk_rv_eq, zk_ri_eq, zk_is_o, List.mem_cons, List.not_mem_nil, or_false, false_or, or_true, true_or, and_true, true_and, not_false_iff, not_true_eq_false, true_implies, false_implies, imp_self, implies_true, forall_const, zk_lit, zk_uj_ap, zk_un_ap, zk_un_un, zk_uj_uj, Nat.reduceEqDiff, eq_self, zk_bq, Bool.true_or, Bool.false_or, Nat.le_refl, Nat.zero_add, Nat.add_zero, Nat.reduceAdd, Nat.reduceLeDiff, Nat.le_zero_eq, and_self, and_false, false_and, ite_true, ite_false, Nat.zero_le, List.length_cons, List.length_nil, Option.some.injEq, forall_eq', reduceCtorEq, spe_X10_doorThere, in19, hcl, hb, Bool.true_eq_false, spe_X10_reckon])
      refine ⟨J1, N1, fl0 N1, hmi, hxr, hrk, fun J2 N2 hke hcf => ?_⟩
      have h := h J2 N2 hke (Or.inr hcf)
      have h9 := (hcf.2.1.1 j (by omega)).2
      simp only [r_X10_way, zk_kl_none, zk_kl_int, zk_kl_ref, zk_kl_null, zk_kl_long, zk_kl_rf, zk_isr_ref, zk_isr_null, zk_isr_rf9, zk_c1_int, zk_c1_ref, zk_c1_null, zk_c1_rf, zk_psh_some, zk_psh_none, zk_nok_int, zk_nok_bool0, zk_nok_bool1, zk_nok_b, zk_fok_0, zk_fok_1, zk_fok_2, zk_fok_n, zk_fok_rf, zb_f, zb_p, zb_i, zb_a, zb_s, zk_nth_0, zk_nth_s, zk_fld_o, zk_put_o, zk_rv_eq, zk_ri_eq, zk_is_o, List.mem_cons, List.not_mem_nil, or_false, false_or, or_true, true_or, and_true, true_and, not_false_iff, not_true_eq_false, true_implies, false_implies, imp_self, implies_true, forall_const, zk_lit, zk_uj_ap, zk_un_ap, zk_un_un, zk_uj_uj, Nat.reduceEqDiff, eq_self, zk_bq, Bool.true_or, Bool.false_or, Nat.le_refl, Nat.zero_add, Nat.add_zero, Nat.reduceAdd, Nat.reduceLeDiff, Nat.le_zero_eq, and_self, and_false, false_and, ite_true, ite_false, Nat.zero_le, List.length_cons, List.length_nil, Option.some.injEq, forall_eq', reduceCtorEq, hin, hcl, h9]
      exact h
  · rcases hxr.nodoor hmi.1 hr with q | ⟨q, q2⟩
    · (refine hG 900 _ _ _ _ ?_; simp only [r_X10_way, zk_kl_none, zk_kl_int, zk_kl_ref, zk_kl_null, zk_kl_long, zk_kl_rf, zk_isr_ref, zk_isr_null, zk_isr_rf9, zk_c1_int, zk_c1_ref, zk_c1_null, zk_c1_rf, zk_psh_some, zk_psh_none, zk_nok_int, zk_nok_bool0, zk_nok_bool1, zk_nok_b, zk_fok_0, zk_fok_1, zk_fok_2, zk_fok_n, zk_fok_rf, zb_f, zb_p, zb_i, zb_a, zb_s, zk_nth_0, zk_nth_s, zk_fld_o, zk_put_o, zk_rv_eq, zk_ri_eq, zk_is_o, List.mem_cons, List.not_mem_nil, or_false, false_or, or_true, true_or, and_true, true_and, not_false_iff, not_true_eq_false, true_implies, false_implies, imp_self, implies_true, forall_const, zk_lit, zk_uj_ap, zk_un_ap, zk_un_un, zk_uj_uj, Nat.reduceEqDiff, eq_self, zk_bq, Bool.true_or, Bool.false_or, Nat.le_refl, Nat.zero_add, Nat.add_zero, Nat.reduceAdd, Nat.reduceLeDiff, Nat.le_zero_eq, and_self, and_false, false_and, ite_true, ite_false, Nat.zero_le, List.length_cons, List.length_nil, Option.some.injEq, forall_eq', reduceCtorEq, spe_X10_doorThere, q, Bool.false_eq_true])
      exact fun z2 hz => h J N z2 (KE.refl J N) hrk hz
    · (refine hG 900 _ _ _ _ ?_; simp only [r_X10_way, zk_kl_none, zk_kl_int, zk_kl_ref, zk_kl_null, zk_kl_long, zk_kl_rf, zk_isr_ref, zk_isr_null, zk_isr_rf9, zk_c1_int, zk_c1_ref, zk_c1_null, zk_c1_rf, zk_psh_some, zk_psh_none, zk_nok_int, zk_nok_bool0, zk_nok_bool1, zk_nok_b, zk_fok_0, zk_fok_1, zk_fok_2, zk_fok_n, zk_fok_rf, zb_f, zb_p, zb_i, zb_a, zb_s, zk_nth_0, zk_nth_s, zk_fld_o, zk_put_o, zk_rv_eq, zk_ri_eq, zk_is_o, List.mem_cons, List.not_mem_nil, or_false, false_or, or_true, true_or, and_true, true_and, not_false_iff, not_true_eq_false, true_implies, false_implies, imp_self, implies_true, forall_const, zk_lit, zk_uj_ap, zk_un_ap, zk_un_un, zk_uj_uj, Nat.reduceEqDiff, eq_self, zk_bq, Bool.true_or, Bool.false_or, Nat.le_refl, Nat.zero_add, Nat.add_zero, Nat.reduceAdd, Nat.reduceLeDiff, Nat.le_zero_eq, and_self, and_false, false_and, ite_true, ite_false, Nat.zero_le, List.length_cons, List.length_nil, Option.some.injEq, forall_eq', reduceCtorEq, spe_X10_doorThere, q, q2])
      exact fun z2 hz => h J N z2 (KE.refl J N) hrk hz
theorem ct_X10_way {l : Launch} (hl : l.stackTraces = false) (E : zk_E) : zk_C l E (zk_VT E) yX10_way cX10_way 3 (some (.int)) rm_X10_way (sp_X10_way E) := by
  refine zk_meth (M := M_X10_way) (C := C_X10_way E) hl (by decide +kernel) rfl (fun _ _ => rfl) (zk_VT_ok E) MO_X10_way TO_X10_way THo_X10_way ?_ (vc_X10_way E)
  exact fun p e s m args below meth c X pc n mc ms sp2 h => by
    have h2 := zk_lka_mem h
    simp only [List.mem_cons, List.not_mem_nil, or_false, Prod.mk.injEq] at h2
    rcases h2 with ⟨rfl, rfl, rfl, rfl, rfl⟩ | ⟨rfl, rfl, rfl, rfl, rfl⟩
    · exact zk_coV (idx := 167) X (ct_X10_doorThere hl E) (List.forall_mem_cons.mpr ⟨zk_wi 23 (by decide +kernel) rfl, List.forall_mem_cons.mpr ⟨zk_wi 25 (by decide +kernel) rfl, List.forall_mem_cons.mpr ⟨zk_wp 0 (by decide +kernel) rfl, List.forall_mem_cons.mpr ⟨zk_wi 2 (by decide +kernel) rfl, List.forall_mem_cons.mpr ⟨zk_wi 27 (by decide +kernel) rfl, fun _ h => absurd h List.not_mem_nil⟩⟩⟩⟩⟩) (fun ci h => by
      have h := Nat.eq_of_beq_eq_true h
      subst h
      exact ⟨_, _, rfl⟩) (by decide +kernel) ⟨by decide, by decide, by decide +kernel⟩ ⟨by decide, by decide⟩
    · exact zk_coV (idx := 197) X (ct_X10_reckon hl E) (List.forall_mem_cons.mpr ⟨zk_wi 110 (by decide +kernel) rfl, List.forall_mem_cons.mpr ⟨zk_wi 112 (by decide +kernel) rfl, List.forall_mem_cons.mpr ⟨zk_wp 3 (by decide +kernel) rfl, List.forall_mem_cons.mpr ⟨zk_wi 2 (by decide +kernel) rfl, List.forall_mem_cons.mpr ⟨zk_wi 113 (by decide +kernel) rfl, fun _ h => absurd h List.not_mem_nil⟩⟩⟩⟩⟩) (fun ci h => by
      have h := Nat.eq_of_beq_eq_true h
      subst h
      exact ⟨_, _, rfl⟩) (by decide +kernel) ⟨by decide, by decide, by decide +kernel⟩ ⟨by decide, by decide⟩
def sp_X10_load (E : zk_E) : zk_Sp zk_S := fun av σ sz P PX => match av with
  | [.ref a, .int r] => a = zk_ad E 0 ∧ ∃ J N, IC E sz σ J N ∧ DRD J N r (fun j => ZC J N σ sz (some (.int (a_load J N j))) P) (ZX J N σ sz "java/lang/IndexOutOfBoundsException" PX)
  | _ => False
theorem spe_X10_load (E : zk_E) (a : Nat) (r : Int32) (σ : zk_S) (sz : Nat) (P : zk_P zk_S) (PX : zk_X zk_S) : sp_X10_load E [.ref a, .int r] σ sz P PX = (a = zk_ad E 0 ∧ ∃ J N, IC E sz σ J N ∧ DRD J N r (fun j => ZC J N σ sz (some (.int (a_load J N j))) P) (ZX J N σ sz "java/lang/IndexOutOfBoundsException" PX)) := propext Iff.rfl
def C_X10_load (E : zk_E) : zk_Cl zk_S := zk_lka [(2, 2, 1, 6, zk_rv (zk_VT E) (fun ci => Nat.beq ci 9) (sp_X10_doorThere E)), (7, 1, 0, 0, zk_rv (zk_VT E) (fun ci => Nat.beq ci 9) (sp_X10_reckon E))]
theorem r_X10_load (E : zk_E) (P : zk_P zk_S) (PX : zk_X zk_S) (K : Nat → zk_L → List Value → zk_W zk_S → Prop) : (∀ (n : Nat) (l1 : Option Value) (y0 : Value) (r : List Value) (σ : zk_S) (sz k c : Nat), zk_run E (zk_VT E) M_X10_load (C_X10_load E) P PX K (n + 1) 0 [some y0, l1] r (σ, sz, k, c) = (zk_isr y0 ∧ zk_run E (zk_VT E) M_X10_load (C_X10_load E) P PX K n 1 [some y0, l1] (y0 :: r) (σ, sz, k, c))) ∧
  (∀ (n : Nat) (l0 : Option Value) (y1 : Int32) (r : List Value) (σ : zk_S) (sz k c : Nat), zk_run E (zk_VT E) M_X10_load (C_X10_load E) P PX K (n + 1) 1 [l0, some (.int y1)] r (σ, sz, k, c) = zk_run E (zk_VT E) M_X10_load (C_X10_load E) P PX K n 2 [l0, some (.int y1)] (.int y1 :: r) (σ, sz, k, c)) ∧
  (∀ (n : Nat) (l0 l1 : Option Value) (v0 : Value) (v1 : Value)  (σ : zk_S) (sz k c : Nat), zk_run E (zk_VT E) M_X10_load (C_X10_load E) P PX K (n + 1) 2 [l0, l1] [v0, v1] (σ, sz, k, c) = (k + 1 ≤ 1 ∧ c + 6 ≤ 6 ∧ (zk_rv (zk_VT E) (fun ci => Nat.beq ci 9) (sp_X10_doorThere E)) [v1, v0] σ sz (fun v s2 z2 => zk_run E (zk_VT E) M_X10_load (C_X10_load E) P PX K n 5 [l0, l1] (zk_psh v []) (s2, z2, k + 1, c + 6)) (fun X s2 z2 => PX X s2 z2))) ∧
  (∀ (n : Nat) (l0 l1 : Option Value) (v : Value) (r : List Value) (σ : zk_S) (sz k c : Nat), zk_run E (zk_VT E) M_X10_load (C_X10_load E) P PX K (n + 1) 5 [l0, l1] (v :: r) (σ, sz, k, c) = (zk_c1 v ∧ zk_run E (zk_VT E) M_X10_load (C_X10_load E) P PX K n 6 [l0, l1] r (σ, sz, k, c))) ∧
  (∀ (n : Nat) (l1 : Option Value) (y0 : Value) (r : List Value) (σ : zk_S) (sz k c : Nat), zk_run E (zk_VT E) M_X10_load (C_X10_load E) P PX K (n + 1) 6 [some y0, l1] r (σ, sz, k, c) = (zk_isr y0 ∧ zk_run E (zk_VT E) M_X10_load (C_X10_load E) P PX K n 7 [some y0, l1] (y0 :: r) (σ, sz, k, c))) ∧
  (∀ (n : Nat) (l0 l1 : Option Value) (v0 : Value)  (σ : zk_S) (sz k c : Nat), zk_run E (zk_VT E) M_X10_load (C_X10_load E) P PX K (n + 1) 7 [l0, l1] [v0] (σ, sz, k, c) = (k + 0 ≤ 1 ∧ c + 0 ≤ 6 ∧ (zk_rv (zk_VT E) (fun ci => Nat.beq ci 9) (sp_X10_reckon E)) [v0] σ sz (fun v s2 z2 => zk_run E (zk_VT E) M_X10_load (C_X10_load E) P PX K n 10 [l0, l1] (zk_psh v []) (s2, z2, k + 0, c + 0)) (fun X s2 z2 => PX X s2 z2))) ∧
  (∀ (n : Nat) (l1 : Option Value) (y0 : Value) (r : List Value) (σ : zk_S) (sz k c : Nat), zk_run E (zk_VT E) M_X10_load (C_X10_load E) P PX K (n + 1) 10 [some y0, l1] r (σ, sz, k, c) = (zk_isr y0 ∧ zk_run E (zk_VT E) M_X10_load (C_X10_load E) P PX K n 11 [some y0, l1] (y0 :: r) (σ, sz, k, c))) ∧
  (∀ (n : Nat) (l0 l1 : Option Value) (a : Nat) (r : List Value) (σ : zk_S) (sz k c : Nat), zk_run E (zk_VT E) M_X10_load (C_X10_load E) P PX K (n + 1) 11 [l0, l1] (.ref a :: r) (σ, sz, k, c) = zk_fld (zk_view E σ a) [9] 1 (fun v => zk_run E (zk_VT E) M_X10_load (C_X10_load E) P PX K n 14 [l0, l1] (v :: r) (σ, sz, k, c))) ∧
  (∀ (n : Nat) (l0 l1 : Option Value) (a : Nat) (r : List Value) (σ : zk_S) (sz k c : Nat), zk_run E (zk_VT E) M_X10_load (C_X10_load E) P PX K (n + 1) 14 [l0, l1] (.ref a :: r) (σ, sz, k, c) = zk_fld (zk_view E σ a) [7] 2 (fun v => zk_run E (zk_VT E) M_X10_load (C_X10_load E) P PX K n 17 [l0, l1] (v :: r) (σ, sz, k, c))) ∧
  (∀ (n : Nat) (l0 : Option Value) (y1 : Int32) (r : List Value) (σ : zk_S) (sz k c : Nat), zk_run E (zk_VT E) M_X10_load (C_X10_load E) P PX K (n + 1) 17 [l0, some (.int y1)] r (σ, sz, k, c) = zk_run E (zk_VT E) M_X10_load (C_X10_load E) P PX K n 18 [l0, some (.int y1)] (.int y1 :: r) (σ, sz, k, c)) ∧
  (∀ (n : Nat) (l0 l1 : Option Value) (a : Nat) (i : Int32) (r : List Value) (σ : zk_S) (sz k c : Nat), zk_run E (zk_VT E) M_X10_load (C_X10_load E) P PX K (n + 1) 18 [l0, l1] (.int i :: .ref a :: r) (σ, sz, k, c) = zk_ild (zk_view E σ a) (zk_ar E 0) i (fun x => zk_run E (zk_VT E) M_X10_load (C_X10_load E) P PX K n 19 [l0, l1] (.int x :: r) (σ, sz, k, c))) ∧
  (∀ (n : Nat) (l0 l1 : Option Value) (x : Int32)  (σ : zk_S) (sz k c : Nat), zk_run E (zk_VT E) M_X10_load (C_X10_load E) P PX K (n + 1) 19 [l0, l1] [.int x] (σ, sz, k, c) = (zk_nok (some (.int)) x ∧ P (some (.int x)) σ sz ∧ k ≤ 1 ∧ c ≤ 6)) ∧
  (∀ (n : Nat) (l0 l1 : Option Value) (r : List Value) (w : zk_W zk_S), zk_go E (zk_VT E) M_X10_load (C_X10_load E) P PX K n 0 [l0, l1] r w = zk_run E (zk_VT E) M_X10_load (C_X10_load E) P PX K (n + 1) 0 [l0, l1] r w) := ⟨by intros; rfl, by intros; rfl, by intros; rfl, by intros; rfl, by intros; rfl, by intros; rfl, by intros; rfl, by intros; rfl, by intros; rfl, by intros; rfl, by intros; rfl, by intros; rfl, by intros; rfl⟩
theorem vc_X10_load (E : zk_E) : zk_VC E (zk_VT E) M_X10_load (C_X10_load E) 2 (sp_X10_load E) := by
  intro av σ sz P PX h
  obtain ⟨J, N, Q, O, U⟩ := σ
  unfold sp_X10_load at h
  split at h
  case h_2 => exact h.elim
  rename_i a0 r
  obtain ⟨rfl, h⟩ := h
  refine ⟨Nat.le_of_ble_eq_true rfl, fun G hG => ?_⟩
  change G 0 [some (.ref (zk_ad E 0)), some (.int r)] [] ((J, N, Q, O, U), sz, 0, 0)
  try dsimp only at h
  obtain ⟨J1, N1, ⟨hmi, hxr, hrk⟩, h⟩ := h
  rcases h with ⟨j, hj, rfl, h⟩ | ⟨hr, h⟩
  · have hj0 := hj
    obtain ⟨b, p, hb, hbo, hpo, hOb, hOp⟩ := hxr.2.2.1.door hmi.1 hj
    have hb : Q 3 j = some b := hb
    have hOb : O b = some (xdr N1 Q (fl0 N1) j p) := hOb
    have hb1 := hbo.1
    have hj40 := hj.lt hmi.1
    have in19 : m_isIn (nI j) 0 39 = true := n_isIn (by decide) hj40 (by decide)
    have hin : vp_in (nI j) 50 := n_in (by omega) (by decide)
    have hcl : (nI j).toNatClampNeg = j := n_cl (by omega)
    (refine hG 900 _ _ _ _ ?_; simp only [r_X10_load, zk_kl_none, zk_kl_int, zk_kl_ref, zk_kl_null, zk_kl_long, zk_kl_rf, zk_isr_ref, zk_isr_null, zk_isr_rf9, zk_c1_int, zk_c1_ref, zk_c1_null, zk_c1_rf, zk_psh_some, zk_psh_none, zk_nok_int, zk_nok_bool0, zk_nok_bool1, zk_nok_b, zk_fok_0, zk_fok_1, zk_fok_2, zk_fok_n, zk_fok_rf, zb_f, zb_p, zb_i, zb_a, zb_s, zk_nth_0, zk_nth_s, zk_fld_o, zk_put_o, zk_rv_eq, zk_ri_eq, zk_is_o, List.mem_cons, List.not_mem_nil, or_false, false_or, or_true, true_or, and_true, true_and, not_false_iff, not_true_eq_false, true_implies, false_implies, imp_self, implies_true, forall_const, zk_lit, zk_uj_ap, zk_un_ap, zk_un_un, zk_uj_uj, Nat.reduceEqDiff, eq_self, zk_bq, Bool.true_or, Bool.false_or, Nat.le_refl, Nat.zero_add, Nat.add_zero, Nat.reduceAdd, Nat.reduceLeDiff, Nat.le_zero_eq, and_self, and_false, false_and, ite_true, ite_false, Nat.zero_le, List.length_cons, List.length_nil, Option.some.injEq, forall_eq', reduceCtorEq, spe_X10_doorThere, in19, hcl, hb, Bool.true_eq_false, spe_X10_reckon])
    refine ⟨J1, N1, fl0 N1, hmi, hxr, hrk, fun J2 N2 hke hcf => ?_⟩
    have h := h J2 N2 hke (Or.inr hcf)
    have h10 := hcf.2.1.2.1 j (by omega)
    simp only [r_X10_load, zk_kl_none, zk_kl_int, zk_kl_ref, zk_kl_null, zk_kl_long, zk_kl_rf, zk_isr_ref, zk_isr_null, zk_isr_rf9, zk_c1_int, zk_c1_ref, zk_c1_null, zk_c1_rf, zk_psh_some, zk_psh_none, zk_nok_int, zk_nok_bool0, zk_nok_bool1, zk_nok_b, zk_fok_0, zk_fok_1, zk_fok_2, zk_fok_n, zk_fok_rf, zb_f, zb_p, zb_i, zb_a, zb_s, zk_nth_0, zk_nth_s, zk_fld_o, zk_put_o, zk_rv_eq, zk_ri_eq, zk_is_o, List.mem_cons, List.not_mem_nil, or_false, false_or, or_true, true_or, and_true, true_and, not_false_iff, not_true_eq_false, true_implies, false_implies, imp_self, implies_true, forall_const, zk_lit, zk_uj_ap, zk_un_ap, zk_un_un, zk_uj_uj, Nat.reduceEqDiff, eq_self, zk_bq, Bool.true_or, Bool.false_or, Nat.le_refl, Nat.zero_add, Nat.add_zero, Nat.reduceAdd, Nat.reduceLeDiff, Nat.le_zero_eq, and_self, and_false, false_and, ite_true, ite_false, Nat.zero_le, List.length_cons, List.length_nil, Option.some.injEq, forall_eq', reduceCtorEq, hin, hcl, h10]
    exact h
  · rcases hxr.nodoor hmi.1 hr with q | ⟨q, q2⟩
    · (refine hG 900 _ _ _ _ ?_; simp only [r_X10_load, zk_kl_none, zk_kl_int, zk_kl_ref, zk_kl_null, zk_kl_long, zk_kl_rf, zk_isr_ref, zk_isr_null, zk_isr_rf9, zk_c1_int, zk_c1_ref, zk_c1_null, zk_c1_rf, zk_psh_some, zk_psh_none, zk_nok_int, zk_nok_bool0, zk_nok_bool1, zk_nok_b, zk_fok_0, zk_fok_1, zk_fok_2, zk_fok_n, zk_fok_rf, zb_f, zb_p, zb_i, zb_a, zb_s, zk_nth_0, zk_nth_s, zk_fld_o, zk_put_o, zk_rv_eq, zk_ri_eq, zk_is_o, List.mem_cons, List.not_mem_nil, or_false, false_or, or_true, true_or, and_true, true_and, not_false_iff, not_true_eq_false, true_implies, false_implies, imp_self, implies_true, forall_const, zk_lit, zk_uj_ap, zk_un_ap, zk_un_un, zk_uj_uj, Nat.reduceEqDiff, eq_self, zk_bq, Bool.true_or, Bool.false_or, Nat.le_refl, Nat.zero_add, Nat.add_zero, Nat.reduceAdd, Nat.reduceLeDiff, Nat.le_zero_eq, and_self, and_false, false_and, ite_true, ite_false, Nat.zero_le, List.length_cons, List.length_nil, Option.some.injEq, forall_eq', reduceCtorEq, spe_X10_doorThere, q, Bool.false_eq_true])
      exact fun z2 hz => h J N z2 (KE.refl J N) hrk hz
    · (refine hG 900 _ _ _ _ ?_; simp only [r_X10_load, zk_kl_none, zk_kl_int, zk_kl_ref, zk_kl_null, zk_kl_long, zk_kl_rf, zk_isr_ref, zk_isr_null, zk_isr_rf9, zk_c1_int, zk_c1_ref, zk_c1_null, zk_c1_rf, zk_psh_some, zk_psh_none, zk_nok_int, zk_nok_bool0, zk_nok_bool1, zk_nok_b, zk_fok_0, zk_fok_1, zk_fok_2, zk_fok_n, zk_fok_rf, zb_f, zb_p, zb_i, zb_a, zb_s, zk_nth_0, zk_nth_s, zk_fld_o, zk_put_o, zk_rv_eq, zk_ri_eq, zk_is_o, List.mem_cons, List.not_mem_nil, or_false, false_or, or_true, true_or, and_true, true_and, not_false_iff, not_true_eq_false, true_implies, false_implies, imp_self, implies_true, forall_const, zk_lit, zk_uj_ap, zk_un_ap, zk_un_un, zk_uj_uj, Nat.reduceEqDiff, eq_self, zk_bq, Bool.true_or, Bool.false_or, Nat.le_refl, Nat.zero_add, Nat.add_zero, Nat.reduceAdd, Nat.reduceLeDiff, Nat.le_zero_eq, and_self, and_false, false_and, ite_true, ite_false, Nat.zero_le, List.length_cons, List.length_nil, Option.some.injEq, forall_eq', reduceCtorEq, spe_X10_doorThere, q, q2])
      exact fun z2 hz => h J N z2 (KE.refl J N) hrk hz
theorem ct_X10_load {l : Launch} (hl : l.stackTraces = false) (E : zk_E) : zk_C l E (zk_VT E) yX10_load cX10_load 2 (some (.int)) rm_X10_load (sp_X10_load E) := by
  refine zk_meth (M := M_X10_load) (C := C_X10_load E) hl (by decide +kernel) rfl (fun _ _ => rfl) (zk_VT_ok E) MO_X10_load TO_X10_load THo_X10_load ?_ (vc_X10_load E)
  exact fun p e s m args below meth c X pc n mc ms sp2 h => by
    have h2 := zk_lka_mem h
    simp only [List.mem_cons, List.not_mem_nil, or_false, Prod.mk.injEq] at h2
    rcases h2 with ⟨rfl, rfl, rfl, rfl, rfl⟩ | ⟨rfl, rfl, rfl, rfl, rfl⟩
    · exact zk_coV (idx := 167) X (ct_X10_doorThere hl E) (List.forall_mem_cons.mpr ⟨zk_wi 23 (by decide +kernel) rfl, List.forall_mem_cons.mpr ⟨zk_wi 25 (by decide +kernel) rfl, List.forall_mem_cons.mpr ⟨zk_wp 0 (by decide +kernel) rfl, List.forall_mem_cons.mpr ⟨zk_wi 2 (by decide +kernel) rfl, List.forall_mem_cons.mpr ⟨zk_wi 27 (by decide +kernel) rfl, fun _ h => absurd h List.not_mem_nil⟩⟩⟩⟩⟩) (fun ci h => by
      have h := Nat.eq_of_beq_eq_true h
      subst h
      exact ⟨_, _, rfl⟩) (by decide +kernel) ⟨by decide, by decide, by decide +kernel⟩ ⟨by decide, by decide⟩
    · exact zk_coV (idx := 197) X (ct_X10_reckon hl E) (List.forall_mem_cons.mpr ⟨zk_wi 110 (by decide +kernel) rfl, List.forall_mem_cons.mpr ⟨zk_wi 112 (by decide +kernel) rfl, List.forall_mem_cons.mpr ⟨zk_wp 3 (by decide +kernel) rfl, List.forall_mem_cons.mpr ⟨zk_wi 2 (by decide +kernel) rfl, List.forall_mem_cons.mpr ⟨zk_wi 113 (by decide +kernel) rfl, fun _ h => absurd h List.not_mem_nil⟩⟩⟩⟩⟩) (fun ci h => by
      have h := Nat.eq_of_beq_eq_true h
      subst h
      exact ⟨_, _, rfl⟩) (by decide +kernel) ⟨by decide, by decide, by decide +kernel⟩ ⟨by decide, by decide⟩

