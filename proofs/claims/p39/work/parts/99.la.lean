/-! the law: the rooms asked (mk_la.py) -/
section HQ
variable {E : zk_E} {sz d : Nat} {J1 N1 : Nat → Nat → Int32} {Q : Nat → Nat → Option Nat} {O : zk_Hp} {U : zk_U} {J N : Nat → Nat → Int32} {P : zk_P zk_S} {PX : zk_X zk_S}
theorem hq_isThere (hI : HI E sz (J1, N1, Q, O, U) J N d) {j : Nat} (hj : j < m_nr J) (h : P (some (.int (zk_b (decide (¬ N 23 j = -2))))) (J1, N1, Q, O, U) sz) : zk_lf E (sp_X11_isThere E) [.ref (zk_ad E 22), .int (nI j)] (J1, N1, Q, O, U) sz P PX := ⟨hI.base, rfl, J, N, j, hI.1.1, hI.2.1.nr hI.1.1.1, hI.2.1.2.1, rfl, hj, h⟩
theorem hq_there1 (hI : HI E sz (J1, N1, Q, O, U) J N d) {j : Nat} (hj : MR J N j) (h : P (some (.int 1)) (J1, N1, Q, O, U) sz) : zk_lf E (sp_X11_isThere E) [.ref (zk_ad E 22), .int (nI j)] (J1, N1, Q, O, U) sz P PX := hq_isThere hI hj.1 (by rw [decide_eq_true hj.2]; exact h)
theorem hq_there0 (hI : HI E sz (J1, N1, Q, O, U) J N d) {j : Nat} (hj : j < m_nr J) (h2 : N 23 j = -2) (h : P (some (.int 0)) (J1, N1, Q, O, U) sz) : zk_lf E (sp_X11_isThere E) [.ref (zk_ad E 22), .int (nI j)] (J1, N1, Q, O, U) sz P PX := hq_isThere hI hj (by rw [decide_eq_false (p := ¬ N 23 j = -2) (fun w => w h2)]; exact h)
theorem hq_lost1 (hI : HI E sz (J1, N1, Q, O, U) J N d) {j : Nat} (hj : MR J N j) (hl : lea J N j = 100) (h : ∀ J2 N2, HI E sz (J2, N2, Q, O, U) J N d → P (some (.int 1)) (J2, N2, Q, O, U) sz) : zk_lf E (sp_X10_isLost E) [.ref (zk_ad E 0), .int (nI j)] (J1, N1, Q, O, U) sz P PX := hq_isLost hI hj (fun J2 N2 h2 => by rw [(ln_lost (hj.lt hI.1.1) hl).1]; exact h J2 N2 h2)
theorem hq_lost0 (hI : HI E sz (J1, N1, Q, O, U) J N d) {j : Nat} (hj : MR J N j) (hl : ¬ lea J N j = 100) (h : ∀ J2 N2, HI E sz (J2, N2, Q, O, U) J N d → P (some (.int 0)) (J2, N2, Q, O, U) sz) : zk_lf E (sp_X10_isLost E) [.ref (zk_ad E 0), .int (nI j)] (J1, N1, Q, O, U) sz P PX := hq_isLost hI hj (fun J2 N2 h2 => by rw [(ln_kept hl).1]; exact h J2 N2 h2)
/-- a room's own row -/
theorem HI.rrow (hI : HI E sz (J1, N1, Q, O, U) J N d) {j : Nat} (hj : MR J N j) : ∃ a f, Q 23 j = some a ∧ E.1 + 28 ≤ a ∧ O a = some (.inl (zk_ar E 0, 7, .inl f)) ∧ f 3 = N 26 j ∧ f 4 = N 27 j ∧ f 6 = nI (g_p J N j) := by
  obtain ⟨a, f, h1, h2, -, h3, h4⟩ := hI.2.1.room hj.1
  obtain ⟨-, -, -, e3, e4, -, e6⟩ := h4.1 hj.2
  refine ⟨a, f, h1, h2, h3, e3, e4, ?_⟩
  rw [e6]
  unfold g_p
  rw [if_pos (show j < m_nr J ∧ ¬ N 23 j = -2 from hj)]
  exact ((hI.1.1.2.1 j hj.1).2.2.2.2.2.2.eq (by decide)).1
theorem HI.drow (hI : HI E sz (J1, N1, Q, O, U) J N d) {k : Nat} (hk : MD J N k) : ∃ a f, Q 24 k = some a ∧ E.1 + 28 ≤ a ∧ O a = some (.inl (zk_ar E 0, 8, .inl f)) ∧ f 0 = N 30 k ∧ f 1 = N 31 k ∧ f 5 = N 34 k ∧ f 6 = N 36 k ∧ f 7 = 0 := by
  obtain ⟨a, f, h1, h2, -, h3, h4⟩ := hI.2.1.door hk.1
  obtain ⟨e0, e1, -, -, -, e5, e6, e7⟩ := h4.1 hk.2
  exact ⟨a, f, h1, h2, h3, e0, e1, e5, e6, e7⟩
end HQ
theorem l_10 : ¬ (1 : Int32) = 0 := by decide
theorem l_01 : ¬ (0 : Int32) = 1 := by decide
theorem l_m11 : ¬ (-1 : Int32) = 1 := by decide
theorem l_m10 : ¬ (-1 : Int32) = 0 := by decide
theorem l_0m1 : ¬ (0 : Int32) = -1 := by decide
theorem l_1m1 : ¬ (1 : Int32) = -1 := by decide
set_option maxHeartbeats 4000000 in
theorem law_132 {E : zk_E} {G : Nat → zk_L → List Value → zk_W zk_S → Prop} (hG : ∀ n pc L st w, zk_go E (zk_VT E) M_L_law (C_law E) (zl_P zk_S) (zl_X zk_S) G n pc L st w → G pc L st w) {J1 N1 : Nat → Nat → Int32} {Q : Nat → Nat → Option Nat} {O : zk_Hp} {U : zk_U} {sz cs ss d : Nat} {J N : Nat → Nat → Int32} (hI : HI E sz (J1, N1, Q, O, U) J N d) {r : Nat} (hr : r < m_nr J) (hc : cs + 1 ≤ 600074) (hs : ss + 6 ≤ 7301550) {a b : Nat} (l0 l1 l4 l5 l6 l10 l11 l12 l13 l14 : Option Value)
    (h1 : N 23 r = -2 → G 531 [l0, l1, some (.ref (zk_ad E 22)), some (.ref (zk_ad E 0)), l4, l5, l6, some (.int (nI a)), some (.int (nI b)), some (.int (nI r)), l10, l11, l12, l13, l14] [] ((J1, N1, Q, O, U), sz, cs, ss))
    (h2 : MR J N r → ∀ J2 N2, HI E sz (J2, N2, Q, O, U) J N d → G 196 [l0, l1, some (.ref (zk_ad E 22)), some (.ref (zk_ad E 0)), l4, l5, zk_kl l6, some (.int (nI (a + ln_sp J N r))), some (.int (nI (b + g_p J N r))), some (.int (nI r)), l10, l11, l12, l13, l14] [] ((J2, N2, Q, O, U), sz, cs + 1, ss + 6)) : G 132 [l0, l1, some (.ref (zk_ad E 22)), some (.ref (zk_ad E 0)), l4, l5, l6, some (.int (nI a)), some (.int (nI b)), some (.int (nI r)), l10, l11, l12, l13, l14] [] ((J1, N1, Q, O, U), sz, cs, ss) := by
  have hmi := hI.1.1
  have hr20 : r < 20 := Nat.lt_of_lt_of_le hr hmi.1.1.2
  have hn20 := hmi.1.1.2
  have hnr : J1 22 3 = nI (m_nr J) := hI.2.1.nr hmi.1
  have ge1 : ¬ nI (m_nr J) ≤ nI r := by rw [nI_lei (by omega) (by omega)]; omega
  have inj : vp_in (nI r) 20 := n_in (by omega) (by decide)
  have clj : (nI r).toNatClampNeg = r := n_cl (by omega)
  by_cases q : N 23 r = -2
  · have h1 := h1 q
    (refine hG 900 _ _ _ _ ?_; simp only [r_law_g, r_law_2, r_law_3, r_law_s, zk_kl_none, zk_kl_int, zk_kl_ref, zk_kl_null, zk_kl_long, zk_kl_rf, zk_isr_ref, zk_isr_null, zk_isr_rf9, zk_c1_int, zk_c1_ref, zk_c1_null, zk_c1_rf, zk_psh_some, zk_psh_none, zk_nok_int, zk_nok_bool0, zk_nok_bool1, zk_nok_b, zk_fok_0, zk_fok_1, zk_fok_2, zk_fok_n, zk_fok_rf, zb_f, zb_p, zb_i, zb_a, zb_s, zk_nth_0, zk_nth_s, zk_fld_o, zk_put_o, zk_rv_eq, zk_ri_eq, zk_is_o, List.mem_cons, List.not_mem_nil, or_false, false_or, or_true, true_or, and_true, true_and, not_false_iff, not_true_eq_false, true_implies, false_implies, imp_self, implies_true, forall_const, zk_lit, zk_uj_ap, zk_un_ap, zk_un_un, zk_uj_uj, Nat.reduceEqDiff, eq_self, zk_bq, Bool.true_or, Bool.false_or, Nat.le_refl, Nat.zero_add, Nat.add_zero, Nat.reduceAdd, Nat.reduceLeDiff, Nat.le_zero_eq, and_self, and_false, false_and, ite_true, ite_false, Nat.zero_le, List.length_cons, List.length_nil, Option.some.injEq, forall_eq', reduceCtorEq, zl_P1, zl_P0, hnr, ge1])
    refine ⟨by omega, by omega, hq_there0 hI hr q ?_⟩
    simp only [r_law_2, r_law_3, r_law_s, zk_kl_none, zk_kl_int, zk_kl_ref, zk_kl_null, zk_kl_long, zk_kl_rf, zk_isr_ref, zk_isr_null, zk_isr_rf9, zk_c1_int, zk_c1_ref, zk_c1_null, zk_c1_rf, zk_psh_some, zk_psh_none, zk_nok_int, zk_nok_bool0, zk_nok_bool1, zk_nok_b, zk_fok_0, zk_fok_1, zk_fok_2, zk_fok_n, zk_fok_rf, zb_f, zb_p, zb_i, zb_a, zb_s, zk_nth_0, zk_nth_s, zk_fld_o, zk_put_o, zk_rv_eq, zk_ri_eq, zk_is_o, List.mem_cons, List.not_mem_nil, or_false, false_or, or_true, true_or, and_true, true_and, not_false_iff, not_true_eq_false, true_implies, false_implies, imp_self, implies_true, forall_const, zk_lit, zk_uj_ap, zk_un_ap, zk_un_un, zk_uj_uj, Nat.reduceEqDiff, eq_self, zk_bq, Bool.true_or, Bool.false_or, Nat.le_refl, Nat.zero_add, Nat.add_zero, Nat.reduceAdd, Nat.reduceLeDiff, Nat.le_zero_eq, and_self, and_false, false_and, ite_true, ite_false, Nat.zero_le, List.length_cons, List.length_nil, Option.some.injEq, forall_eq', reduceCtorEq, zl_P1, zl_P0, l_10, l_01]
    exact h1
  · have hm : MR J N r := ⟨hr, q⟩
    have h2 := h2 hm
    obtain ⟨c, f, hq, hc28, hO, e3, e4, e6⟩ := hI.rrow hm
    (refine hG 900 _ _ _ _ ?_; simp only [r_law_g, r_law_2, r_law_3, r_law_s, zk_kl_none, zk_kl_int, zk_kl_ref, zk_kl_null, zk_kl_long, zk_kl_rf, zk_isr_ref, zk_isr_null, zk_isr_rf9, zk_c1_int, zk_c1_ref, zk_c1_null, zk_c1_rf, zk_psh_some, zk_psh_none, zk_nok_int, zk_nok_bool0, zk_nok_bool1, zk_nok_b, zk_fok_0, zk_fok_1, zk_fok_2, zk_fok_n, zk_fok_rf, zb_f, zb_p, zb_i, zb_a, zb_s, zk_nth_0, zk_nth_s, zk_fld_o, zk_put_o, zk_rv_eq, zk_ri_eq, zk_is_o, List.mem_cons, List.not_mem_nil, or_false, false_or, or_true, true_or, and_true, true_and, not_false_iff, not_true_eq_false, true_implies, false_implies, imp_self, implies_true, forall_const, zk_lit, zk_uj_ap, zk_un_ap, zk_un_un, zk_uj_uj, Nat.reduceEqDiff, eq_self, zk_bq, Bool.true_or, Bool.false_or, Nat.le_refl, Nat.zero_add, Nat.add_zero, Nat.reduceAdd, Nat.reduceLeDiff, Nat.le_zero_eq, and_self, and_false, false_and, ite_true, ite_false, Nat.zero_le, List.length_cons, List.length_nil, Option.some.injEq, forall_eq', reduceCtorEq, zl_P1, zl_P0, hnr, ge1])
    refine ⟨by omega, by omega, hq_there1 hI hm ?_⟩
    simp only [r_law_2, r_law_3, r_law_s, zk_kl_none, zk_kl_int, zk_kl_ref, zk_kl_null, zk_kl_long, zk_kl_rf, zk_isr_ref, zk_isr_null, zk_isr_rf9, zk_c1_int, zk_c1_ref, zk_c1_null, zk_c1_rf, zk_psh_some, zk_psh_none, zk_nok_int, zk_nok_bool0, zk_nok_bool1, zk_nok_b, zk_fok_0, zk_fok_1, zk_fok_2, zk_fok_n, zk_fok_rf, zb_f, zb_p, zb_i, zb_a, zb_s, zk_nth_0, zk_nth_s, zk_fld_o, zk_put_o, zk_rv_eq, zk_ri_eq, zk_is_o, List.mem_cons, List.not_mem_nil, or_false, false_or, or_true, true_or, and_true, true_and, not_false_iff, not_true_eq_false, true_implies, false_implies, imp_self, implies_true, forall_const, zk_lit, zk_uj_ap, zk_un_ap, zk_un_un, zk_uj_uj, Nat.reduceEqDiff, eq_self, zk_bq, Bool.true_or, Bool.false_or, Nat.le_refl, Nat.zero_add, Nat.add_zero, Nat.reduceAdd, Nat.reduceLeDiff, Nat.le_zero_eq, and_self, and_false, false_and, ite_true, ite_false, Nat.zero_le, List.length_cons, List.length_nil, Option.some.injEq, forall_eq', reduceCtorEq, zl_P1, zl_P0, l_10, l_01, inj, clj, hq, zk_vd hc28, hO, zk_ild_d, h_i7, h_cl, e6, n_add]
    refine ⟨by omega, by omega, hq_depth hI hm (fun J2 N2 hI2 => ?_)⟩
    have h2 := h2 J2 N2 hI2
    unfold ln_sp at h2
    by_cases q2 : g_deep J N r < 0
    · have q3 : ¬ 0 ≤ g_deep J N r := fun w => Int32.not_lt.mpr w q2
      rw [if_pos q2] at h2
      simp only [r_law_2, r_law_3, r_law_s, zk_kl_none, zk_kl_int, zk_kl_ref, zk_kl_null, zk_kl_long, zk_kl_rf, zk_isr_ref, zk_isr_null, zk_isr_rf9, zk_c1_int, zk_c1_ref, zk_c1_null, zk_c1_rf, zk_psh_some, zk_psh_none, zk_nok_int, zk_nok_bool0, zk_nok_bool1, zk_nok_b, zk_fok_0, zk_fok_1, zk_fok_2, zk_fok_n, zk_fok_rf, zb_f, zb_p, zb_i, zb_a, zb_s, zk_nth_0, zk_nth_s, zk_fld_o, zk_put_o, zk_rv_eq, zk_ri_eq, zk_is_o, List.mem_cons, List.not_mem_nil, or_false, false_or, or_true, true_or, and_true, true_and, not_false_iff, not_true_eq_false, true_implies, false_implies, imp_self, implies_true, forall_const, zk_lit, zk_uj_ap, zk_un_ap, zk_un_un, zk_uj_uj, Nat.reduceEqDiff, eq_self, zk_bq, Bool.true_or, Bool.false_or, Nat.le_refl, Nat.zero_add, Nat.add_zero, Nat.reduceAdd, Nat.reduceLeDiff, Nat.le_zero_eq, and_self, and_false, false_and, ite_true, ite_false, Nat.zero_le, List.length_cons, List.length_nil, Option.some.injEq, forall_eq', reduceCtorEq, zl_P1, zl_P0, q3, inj, clj, hq, zk_vd hc28, hO, zk_ild_d, h_i7, h_cl, e6, n_add]
      exact h2
    · have q3 : 0 ≤ g_deep J N r := Int32.not_lt.mp q2
      rw [if_neg q2] at h2
      simp only [r_law_2, r_law_3, r_law_s, zk_kl_none, zk_kl_int, zk_kl_ref, zk_kl_null, zk_kl_long, zk_kl_rf, zk_isr_ref, zk_isr_null, zk_isr_rf9, zk_c1_int, zk_c1_ref, zk_c1_null, zk_c1_rf, zk_psh_some, zk_psh_none, zk_nok_int, zk_nok_bool0, zk_nok_bool1, zk_nok_b, zk_fok_0, zk_fok_1, zk_fok_2, zk_fok_n, zk_fok_rf, zb_f, zb_p, zb_i, zb_a, zb_s, zk_nth_0, zk_nth_s, zk_fld_o, zk_put_o, zk_rv_eq, zk_ri_eq, zk_is_o, List.mem_cons, List.not_mem_nil, or_false, false_or, or_true, true_or, and_true, true_and, not_false_iff, not_true_eq_false, true_implies, false_implies, imp_self, implies_true, forall_const, zk_lit, zk_uj_ap, zk_un_ap, zk_un_un, zk_uj_uj, Nat.reduceEqDiff, eq_self, zk_bq, Bool.true_or, Bool.false_or, Nat.le_refl, Nat.zero_add, Nat.add_zero, Nat.reduceAdd, Nat.reduceLeDiff, Nat.le_zero_eq, and_self, and_false, false_and, ite_true, ite_false, Nat.zero_le, List.length_cons, List.length_nil, Option.some.injEq, forall_eq', reduceCtorEq, zl_P1, zl_P0, q3, inj, clj, hq, zk_vd hc28, hO, zk_ild_d, h_i7, h_cl, e6, n_add, Int32.add_zero]
      exact h2

