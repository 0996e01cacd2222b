/-! the law's loop, and its start -/
theorem law_next {E : zk_E} {b Ls : Nat} {xs : Nat → Int32} {G : Nat → zk_L → List Value → zk_W zk_S → Prop} (hG : ∀ n pc L st w, zl_go E (C_law E) b Ls xs G n pc L st w → G pc L st w) {i : Nat} {l5 l6 l7 l8 : Option Value} {σ : zk_S} {sz cs ss : Nat} (h : G 23 [some (.ref b), some (.ref (zk_ad E 0)), some (.ref (zk_ad E 22)), some (.ref (zk_ad E 54)), some (.int (nI (i + 7))), l5, l6, l7, l8] [] (σ, sz, cs, ss)) : G 2345 [some (.ref b), some (.ref (zk_ad E 0)), some (.ref (zk_ad E 22)), some (.ref (zk_ad E 54)), some (.int (nI i)), l5, l6, l7, l8] [] (σ, sz, cs, ss) := by
  refine hG 900 _ _ _ _ ?_
  simp only [r_law_37, zk_kl_none, zk_kl_int, zk_kl_ref, zk_kl_null, zk_kl_long, zk_kl_rf, zk_isr_ref, zk_isr_null, zk_isr_rf9, zk_c1_int, zk_c1_ref, zk_c1_null, zk_c1_rf, zk_psh_some, zk_psh_none, zk_nok_int, zk_nok_bool0, zk_nok_bool1, zk_nok_b, zk_fok_0, zk_fok_1, zk_fok_2, zk_fok_n, zk_fok_rf, zb_f, zb_p, zb_i, zb_a, zb_s, zk_nth_0, zk_nth_s, zk_fld_o, zk_put_o, zk_rv_eq, zk_ri_eq, zk_is_o, List.mem_cons, List.not_mem_nil, or_false, false_or, or_true, true_or, and_true, true_and, not_false_iff, not_true_eq_false, true_implies, false_implies, imp_self, implies_true, forall_const, zk_lit, zk_uj_ap, zk_un_ap, zk_un_un, zk_uj_uj, Nat.reduceEqDiff, eq_self, zk_bq, Bool.true_or, Bool.false_or, Nat.le_refl, Nat.zero_add, Nat.add_zero, Nat.reduceAdd, Nat.reduceLeDiff, Nat.le_zero_eq, and_self, and_false, false_and, ite_true, ite_false, Nat.zero_le, List.length_cons, List.length_nil, Option.some.injEq, forall_eq', reduceCtorEq, la_7]
  exact h
theorem law_c1 {i Ls : Nat} (hi : ¬ i + 7 ≤ Ls) (h2 : i ≤ Ls) (hL : Ls ≤ 3584) : (Int32.ofNat Ls - 7 < nI i) = True := by
  have e1 : (Int32.ofNat Ls).toInt = Ls := nI_toInt (by omega)
  have e2 : (7 : Int32).toInt = 7 := by decide
  have e3 := nI_toInt (n := i) (by omega)
  apply eq_true
  rw [i32_lt, n_subI (by omega) (by omega), e1, e2, e3]
  omega
theorem law_c2 {i Ls : Nat} (hi : i + 7 ≤ Ls) (hL : Ls ≤ 3584) : (Int32.ofNat Ls - 7 < nI i) = False := by
  have e1 : (Int32.ofNat Ls).toInt = Ls := nI_toInt (by omega)
  have e2 : (7 : Int32).toInt = 7 := by decide
  have e3 := nI_toInt (n := i) (by omega)
  apply eq_false
  rw [i32_lt, n_subI (by omega) (by omega), e1, e2, e3]
  omega
theorem law_and (x : Int32) : ∃ k, k < 64 ∧ x &&& 63 = nI k := by
  refine ⟨(x &&& 63).toBitVec.toNat, ?_, ?_⟩
  · have h : (x &&& 63).toBitVec.toNat = x.toBitVec.toNat &&& 63 := by
      show (x.toBitVec &&& 63#32).toNat = _
      rw [BitVec.toNat_and]
      rfl
    rw [h]
    have := Nat.and_le_right (n := x.toBitVec.toNat) (m := 63)
    omega
  · apply Int32.toBitVec_inj.mp
    show _ = BitVec.ofNat 32 (x &&& 63).toBitVec.toNat
    rw [BitVec.ofNat_toNat, BitVec.setWidth_eq]
theorem law_out {E : zk_E} {b Ls : Nat} {xs : Nat → Int32} {G : Nat → zk_L → List Value → zk_W zk_S → Prop} (hG : ∀ n pc L st w, zl_go E (C_law E) b Ls xs G n pc L st w → G pc L st w) {i : Nat} (hi : ¬ i + 7 ≤ Ls) (h2 : i ≤ Ls) (hL : Ls ≤ 3584) {l5 l6 l7 l8 : Option Value} {σ : zk_S} {sz cs ss : Nat} (hc : cs ≤ 601024) (hs : ss ≤ 7293033) : G 23 [some (.ref b), some (.ref (zk_ad E 0)), some (.ref (zk_ad E 22)), some (.ref (zk_ad E 54)), some (.int (nI i)), l5, l6, l7, l8] [] (σ, sz, cs, ss) := by
  obtain ⟨J, N, Q, O, U⟩ := σ
  refine hG 900 _ _ _ _ ?_
  simp only [r_law_0, zk_kl_none, zk_kl_int, zk_kl_ref, zk_kl_null, zk_kl_long, zk_kl_rf, zk_isr_ref, zk_isr_null, zk_isr_rf9, zk_c1_int, zk_c1_ref, zk_c1_null, zk_c1_rf, zk_psh_some, zk_psh_none, zk_nok_int, zk_nok_bool0, zk_nok_bool1, zk_nok_b, zk_fok_0, zk_fok_1, zk_fok_2, zk_fok_n, zk_fok_rf, zb_f, zb_p, zb_i, zb_a, zb_s, zk_nth_0, zk_nth_s, zk_fld_o, zk_put_o, zk_rv_eq, zk_ri_eq, zk_is_o, List.mem_cons, List.not_mem_nil, or_false, false_or, or_true, true_or, and_true, true_and, not_false_iff, not_true_eq_false, true_implies, false_implies, imp_self, implies_true, forall_const, zk_lit, zk_uj_ap, zk_un_ap, zk_un_un, zk_uj_uj, Nat.reduceEqDiff, eq_self, zk_bq, Bool.true_or, Bool.false_or, Nat.le_refl, Nat.zero_add, Nat.add_zero, Nat.reduceAdd, Nat.reduceLeDiff, Nat.le_zero_eq, and_self, and_false, false_and, ite_true, ite_false, Nat.zero_le, List.length_cons, List.length_nil, Option.some.injEq, forall_eq', reduceCtorEq, law_c1 hi h2 hL, zk_nok_bool1, zl_P1]
  exact ⟨hc, hs⟩
theorem tab_0 : zk_tab (2305) (0) (35) #[160, 278, 334, 402, 536, 656, 748, 839, 895, 963, 976, 989, 1002, 1082, 1157, 1220, 1276, 1332, 1388, 1444, 1528, 1584, 1640, 1653, 1709, 1777, 1790, 1846, 1902, 1958, 2014, 2055, 2111, 2167, 2235, 2291] (nI 0) = some 160 := by decide
theorem tab_1 : zk_tab (2305) (0) (35) #[160, 278, 334, 402, 536, 656, 748, 839, 895, 963, 976, 989, 1002, 1082, 1157, 1220, 1276, 1332, 1388, 1444, 1528, 1584, 1640, 1653, 1709, 1777, 1790, 1846, 1902, 1958, 2014, 2055, 2111, 2167, 2235, 2291] (nI 1) = some 278 := by decide
theorem tab_2 : zk_tab (2305) (0) (35) #[160, 278, 334, 402, 536, 656, 748, 839, 895, 963, 976, 989, 1002, 1082, 1157, 1220, 1276, 1332, 1388, 1444, 1528, 1584, 1640, 1653, 1709, 1777, 1790, 1846, 1902, 1958, 2014, 2055, 2111, 2167, 2235, 2291] (nI 2) = some 334 := by decide
theorem tab_3 : zk_tab (2305) (0) (35) #[160, 278, 334, 402, 536, 656, 748, 839, 895, 963, 976, 989, 1002, 1082, 1157, 1220, 1276, 1332, 1388, 1444, 1528, 1584, 1640, 1653, 1709, 1777, 1790, 1846, 1902, 1958, 2014, 2055, 2111, 2167, 2235, 2291] (nI 3) = some 402 := by decide
theorem tab_4 : zk_tab (2305) (0) (35) #[160, 278, 334, 402, 536, 656, 748, 839, 895, 963, 976, 989, 1002, 1082, 1157, 1220, 1276, 1332, 1388, 1444, 1528, 1584, 1640, 1653, 1709, 1777, 1790, 1846, 1902, 1958, 2014, 2055, 2111, 2167, 2235, 2291] (nI 4) = some 536 := by decide
theorem tab_5 : zk_tab (2305) (0) (35) #[160, 278, 334, 402, 536, 656, 748, 839, 895, 963, 976, 989, 1002, 1082, 1157, 1220, 1276, 1332, 1388, 1444, 1528, 1584, 1640, 1653, 1709, 1777, 1790, 1846, 1902, 1958, 2014, 2055, 2111, 2167, 2235, 2291] (nI 5) = some 656 := by decide
theorem tab_6 : zk_tab (2305) (0) (35) #[160, 278, 334, 402, 536, 656, 748, 839, 895, 963, 976, 989, 1002, 1082, 1157, 1220, 1276, 1332, 1388, 1444, 1528, 1584, 1640, 1653, 1709, 1777, 1790, 1846, 1902, 1958, 2014, 2055, 2111, 2167, 2235, 2291] (nI 6) = some 748 := by decide
theorem tab_7 : zk_tab (2305) (0) (35) #[160, 278, 334, 402, 536, 656, 748, 839, 895, 963, 976, 989, 1002, 1082, 1157, 1220, 1276, 1332, 1388, 1444, 1528, 1584, 1640, 1653, 1709, 1777, 1790, 1846, 1902, 1958, 2014, 2055, 2111, 2167, 2235, 2291] (nI 7) = some 839 := by decide
theorem tab_8 : zk_tab (2305) (0) (35) #[160, 278, 334, 402, 536, 656, 748, 839, 895, 963, 976, 989, 1002, 1082, 1157, 1220, 1276, 1332, 1388, 1444, 1528, 1584, 1640, 1653, 1709, 1777, 1790, 1846, 1902, 1958, 2014, 2055, 2111, 2167, 2235, 2291] (nI 8) = some 895 := by decide
theorem tab_9 : zk_tab (2305) (0) (35) #[160, 278, 334, 402, 536, 656, 748, 839, 895, 963, 976, 989, 1002, 1082, 1157, 1220, 1276, 1332, 1388, 1444, 1528, 1584, 1640, 1653, 1709, 1777, 1790, 1846, 1902, 1958, 2014, 2055, 2111, 2167, 2235, 2291] (nI 9) = some 963 := by decide
theorem tab_10 : zk_tab (2305) (0) (35) #[160, 278, 334, 402, 536, 656, 748, 839, 895, 963, 976, 989, 1002, 1082, 1157, 1220, 1276, 1332, 1388, 1444, 1528, 1584, 1640, 1653, 1709, 1777, 1790, 1846, 1902, 1958, 2014, 2055, 2111, 2167, 2235, 2291] (nI 10) = some 976 := by decide
theorem tab_11 : zk_tab (2305) (0) (35) #[160, 278, 334, 402, 536, 656, 748, 839, 895, 963, 976, 989, 1002, 1082, 1157, 1220, 1276, 1332, 1388, 1444, 1528, 1584, 1640, 1653, 1709, 1777, 1790, 1846, 1902, 1958, 2014, 2055, 2111, 2167, 2235, 2291] (nI 11) = some 989 := by decide
theorem tab_12 : zk_tab (2305) (0) (35) #[160, 278, 334, 402, 536, 656, 748, 839, 895, 963, 976, 989, 1002, 1082, 1157, 1220, 1276, 1332, 1388, 1444, 1528, 1584, 1640, 1653, 1709, 1777, 1790, 1846, 1902, 1958, 2014, 2055, 2111, 2167, 2235, 2291] (nI 12) = some 1002 := by decide
theorem tab_13 : zk_tab (2305) (0) (35) #[160, 278, 334, 402, 536, 656, 748, 839, 895, 963, 976, 989, 1002, 1082, 1157, 1220, 1276, 1332, 1388, 1444, 1528, 1584, 1640, 1653, 1709, 1777, 1790, 1846, 1902, 1958, 2014, 2055, 2111, 2167, 2235, 2291] (nI 13) = some 1082 := by decide
theorem tab_14 : zk_tab (2305) (0) (35) #[160, 278, 334, 402, 536, 656, 748, 839, 895, 963, 976, 989, 1002, 1082, 1157, 1220, 1276, 1332, 1388, 1444, 1528, 1584, 1640, 1653, 1709, 1777, 1790, 1846, 1902, 1958, 2014, 2055, 2111, 2167, 2235, 2291] (nI 14) = some 1157 := by decide
theorem tab_15 : zk_tab (2305) (0) (35) #[160, 278, 334, 402, 536, 656, 748, 839, 895, 963, 976, 989, 1002, 1082, 1157, 1220, 1276, 1332, 1388, 1444, 1528, 1584, 1640, 1653, 1709, 1777, 1790, 1846, 1902, 1958, 2014, 2055, 2111, 2167, 2235, 2291] (nI 15) = some 1220 := by decide
theorem tab_16 : zk_tab (2305) (0) (35) #[160, 278, 334, 402, 536, 656, 748, 839, 895, 963, 976, 989, 1002, 1082, 1157, 1220, 1276, 1332, 1388, 1444, 1528, 1584, 1640, 1653, 1709, 1777, 1790, 1846, 1902, 1958, 2014, 2055, 2111, 2167, 2235, 2291] (nI 16) = some 1276 := by decide
theorem tab_17 : zk_tab (2305) (0) (35) #[160, 278, 334, 402, 536, 656, 748, 839, 895, 963, 976, 989, 1002, 1082, 1157, 1220, 1276, 1332, 1388, 1444, 1528, 1584, 1640, 1653, 1709, 1777, 1790, 1846, 1902, 1958, 2014, 2055, 2111, 2167, 2235, 2291] (nI 17) = some 1332 := by decide
theorem tab_18 : zk_tab (2305) (0) (35) #[160, 278, 334, 402, 536, 656, 748, 839, 895, 963, 976, 989, 1002, 1082, 1157, 1220, 1276, 1332, 1388, 1444, 1528, 1584, 1640, 1653, 1709, 1777, 1790, 1846, 1902, 1958, 2014, 2055, 2111, 2167, 2235, 2291] (nI 18) = some 1388 := by decide
theorem tab_19 : zk_tab (2305) (0) (35) #[160, 278, 334, 402, 536, 656, 748, 839, 895, 963, 976, 989, 1002, 1082, 1157, 1220, 1276, 1332, 1388, 1444, 1528, 1584, 1640, 1653, 1709, 1777, 1790, 1846, 1902, 1958, 2014, 2055, 2111, 2167, 2235, 2291] (nI 19) = some 1444 := by decide
theorem tab_20 : zk_tab (2305) (0) (35) #[160, 278, 334, 402, 536, 656, 748, 839, 895, 963, 976, 989, 1002, 1082, 1157, 1220, 1276, 1332, 1388, 1444, 1528, 1584, 1640, 1653, 1709, 1777, 1790, 1846, 1902, 1958, 2014, 2055, 2111, 2167, 2235, 2291] (nI 20) = some 1528 := by decide
theorem tab_21 : zk_tab (2305) (0) (35) #[160, 278, 334, 402, 536, 656, 748, 839, 895, 963, 976, 989, 1002, 1082, 1157, 1220, 1276, 1332, 1388, 1444, 1528, 1584, 1640, 1653, 1709, 1777, 1790, 1846, 1902, 1958, 2014, 2055, 2111, 2167, 2235, 2291] (nI 21) = some 1584 := by decide
theorem tab_22 : zk_tab (2305) (0) (35) #[160, 278, 334, 402, 536, 656, 748, 839, 895, 963, 976, 989, 1002, 1082, 1157, 1220, 1276, 1332, 1388, 1444, 1528, 1584, 1640, 1653, 1709, 1777, 1790, 1846, 1902, 1958, 2014, 2055, 2111, 2167, 2235, 2291] (nI 22) = some 1640 := by decide
theorem tab_23 : zk_tab (2305) (0) (35) #[160, 278, 334, 402, 536, 656, 748, 839, 895, 963, 976, 989, 1002, 1082, 1157, 1220, 1276, 1332, 1388, 1444, 1528, 1584, 1640, 1653, 1709, 1777, 1790, 1846, 1902, 1958, 2014, 2055, 2111, 2167, 2235, 2291] (nI 23) = some 1653 := by decide
theorem tab_24 : zk_tab (2305) (0) (35) #[160, 278, 334, 402, 536, 656, 748, 839, 895, 963, 976, 989, 1002, 1082, 1157, 1220, 1276, 1332, 1388, 1444, 1528, 1584, 1640, 1653, 1709, 1777, 1790, 1846, 1902, 1958, 2014, 2055, 2111, 2167, 2235, 2291] (nI 24) = some 1709 := by decide
theorem tab_25 : zk_tab (2305) (0) (35) #[160, 278, 334, 402, 536, 656, 748, 839, 895, 963, 976, 989, 1002, 1082, 1157, 1220, 1276, 1332, 1388, 1444, 1528, 1584, 1640, 1653, 1709, 1777, 1790, 1846, 1902, 1958, 2014, 2055, 2111, 2167, 2235, 2291] (nI 25) = some 1777 := by decide
theorem tab_26 : zk_tab (2305) (0) (35) #[160, 278, 334, 402, 536, 656, 748, 839, 895, 963, 976, 989, 1002, 1082, 1157, 1220, 1276, 1332, 1388, 1444, 1528, 1584, 1640, 1653, 1709, 1777, 1790, 1846, 1902, 1958, 2014, 2055, 2111, 2167, 2235, 2291] (nI 26) = some 1790 := by decide
theorem tab_27 : zk_tab (2305) (0) (35) #[160, 278, 334, 402, 536, 656, 748, 839, 895, 963, 976, 989, 1002, 1082, 1157, 1220, 1276, 1332, 1388, 1444, 1528, 1584, 1640, 1653, 1709, 1777, 1790, 1846, 1902, 1958, 2014, 2055, 2111, 2167, 2235, 2291] (nI 27) = some 1846 := by decide
theorem tab_28 : zk_tab (2305) (0) (35) #[160, 278, 334, 402, 536, 656, 748, 839, 895, 963, 976, 989, 1002, 1082, 1157, 1220, 1276, 1332, 1388, 1444, 1528, 1584, 1640, 1653, 1709, 1777, 1790, 1846, 1902, 1958, 2014, 2055, 2111, 2167, 2235, 2291] (nI 28) = some 1902 := by decide
theorem tab_29 : zk_tab (2305) (0) (35) #[160, 278, 334, 402, 536, 656, 748, 839, 895, 963, 976, 989, 1002, 1082, 1157, 1220, 1276, 1332, 1388, 1444, 1528, 1584, 1640, 1653, 1709, 1777, 1790, 1846, 1902, 1958, 2014, 2055, 2111, 2167, 2235, 2291] (nI 29) = some 1958 := by decide
theorem tab_30 : zk_tab (2305) (0) (35) #[160, 278, 334, 402, 536, 656, 748, 839, 895, 963, 976, 989, 1002, 1082, 1157, 1220, 1276, 1332, 1388, 1444, 1528, 1584, 1640, 1653, 1709, 1777, 1790, 1846, 1902, 1958, 2014, 2055, 2111, 2167, 2235, 2291] (nI 30) = some 2014 := by decide
theorem tab_31 : zk_tab (2305) (0) (35) #[160, 278, 334, 402, 536, 656, 748, 839, 895, 963, 976, 989, 1002, 1082, 1157, 1220, 1276, 1332, 1388, 1444, 1528, 1584, 1640, 1653, 1709, 1777, 1790, 1846, 1902, 1958, 2014, 2055, 2111, 2167, 2235, 2291] (nI 31) = some 2055 := by decide
theorem tab_32 : zk_tab (2305) (0) (35) #[160, 278, 334, 402, 536, 656, 748, 839, 895, 963, 976, 989, 1002, 1082, 1157, 1220, 1276, 1332, 1388, 1444, 1528, 1584, 1640, 1653, 1709, 1777, 1790, 1846, 1902, 1958, 2014, 2055, 2111, 2167, 2235, 2291] (nI 32) = some 2111 := by decide
theorem tab_33 : zk_tab (2305) (0) (35) #[160, 278, 334, 402, 536, 656, 748, 839, 895, 963, 976, 989, 1002, 1082, 1157, 1220, 1276, 1332, 1388, 1444, 1528, 1584, 1640, 1653, 1709, 1777, 1790, 1846, 1902, 1958, 2014, 2055, 2111, 2167, 2235, 2291] (nI 33) = some 2167 := by decide
theorem tab_34 : zk_tab (2305) (0) (35) #[160, 278, 334, 402, 536, 656, 748, 839, 895, 963, 976, 989, 1002, 1082, 1157, 1220, 1276, 1332, 1388, 1444, 1528, 1584, 1640, 1653, 1709, 1777, 1790, 1846, 1902, 1958, 2014, 2055, 2111, 2167, 2235, 2291] (nI 34) = some 2235 := by decide
theorem tab_35 : zk_tab (2305) (0) (35) #[160, 278, 334, 402, 536, 656, 748, 839, 895, 963, 976, 989, 1002, 1082, 1157, 1220, 1276, 1332, 1388, 1444, 1528, 1584, 1640, 1653, 1709, 1777, 1790, 1846, 1902, 1958, 2014, 2055, 2111, 2167, 2235, 2291] (nI 35) = some 2291 := by decide
theorem tab_d {k : Nat} (h1 : 36 ≤ k) (h2 : k < 64) : zk_tab (2305) (0) (35) #[160, 278, 334, 402, 536, 656, 748, 839, 895, 963, 976, 989, 1002, 1082, 1157, 1220, 1276, 1332, 1388, 1444, 1528, 1584, 1640, 1653, 1709, 1777, 1790, 1846, 1902, 1958, 2014, 2055, 2111, 2167, 2235, 2291] (nI k) = some 2305 := by
  unfold zk_tab
  rw [if_pos (Or.inr (by rw [nI_toInt (by omega)]; omega))]
theorem law_loop {E : zk_E} {b Ls : Nat} {xs : Nat → Int32} {G : Nat → zk_L → List Value → zk_W zk_S → Prop} (hG : ∀ n pc L st w, zl_go E (C_law E) b Ls xs G n pc L st w → G pc L st w) (hL : Ls ≤ 3584) : ∀ (m i : Nat) (l5 l6 l7 l8 : Option Value) (σ : zk_S) (sz cs ss : Nat), Ls ≤ i + m → i ≤ Ls → LI E sz σ → cs + 20 * m ≤ 601024 → ss + 100 * m ≤ 7293033 → G 23 [some (.ref b), some (.ref (zk_ad E 0)), some (.ref (zk_ad E 22)), some (.ref (zk_ad E 54)), some (.int (nI i)), l5, l6, l7, l8] [] (σ, sz, cs, ss) := by
  intro m
  induction m with
  | zero =>
    intro i l5 l6 l7 l8 σ sz cs ss h1 h2 hli hc hs
    exact law_out hG (by omega) h2 hL (by omega) (by omega)
  | succ m ih =>
    intro i l5 l6 l7 l8 σ sz cs ss h1 h2 hli hc hs
    by_cases hi : i + 7 ≤ Ls
    · have hn : ∀ (l5 l6 l7 l8 : Option Value) (σ3 : zk_S) (sz3 cs3 ss3 : Nat), LI E sz3 σ3 → cs3 ≤ cs + 20 → ss3 ≤ ss + 100 → G 2345 [some (.ref b), some (.ref (zk_ad E 0)), some (.ref (zk_ad E 22)), some (.ref (zk_ad E 54)), some (.int (nI i)), l5, l6, l7, l8] [] (σ3, sz3, cs3, ss3) := fun l5 l6 l7 l8 σ3 sz3 cs3 ss3 g1 g2 g3 => law_next hG (ih (i + 7) l5 l6 l7 l8 σ3 sz3 cs3 ss3 (by omega) (by omega) g1 (by omega) (by omega))
      have hc2 : cs + 20 ≤ 601024 := by omega
      have hs2 : ss + 100 ≤ 7293033 := by omega
      obtain ⟨k, hk, ht⟩ := law_and (xs i)
      have go : ∀ off : Int, zk_tab (2305) (0) (35) #[160, 278, 334, 402, 536, 656, 748, 839, 895, 963, 976, 989, 1002, 1082, 1157, 1220, 1276, 1332, 1388, 1444, 1528, 1584, 1640, 1653, 1709, 1777, 1790, 1846, 1902, 1958, 2014, 2055, 2111, 2167, 2235, 2291] (nI k) = some off → (match decide (0 ≤ ((40 : Nat) : Int) + off) with
        | true => zl_run E (C_law E) b Ls xs G 889 (((40 : Nat) : Int) + off).toNat [some (.ref b), some (.ref (zk_ad E 0)), some (.ref (zk_ad E 22)), some (.ref (zk_ad E 54)), some (.int (nI i)), l5, l6, l7, l8] [] (σ, sz, cs, ss)
        | false => False) → G 23 [some (.ref b), some (.ref (zk_ad E 0)), some (.ref (zk_ad E 22)), some (.ref (zk_ad E 54)), some (.int (nI i)), l5, l6, l7, l8] [] (σ, sz, cs, ss) := by
        intro off ho h
        refine hG 900 _ _ _ _ ?_
        obtain ⟨J, N, Q, O, U⟩ := σ
        simp only [r_law_0, zk_kl_none, zk_kl_int, zk_kl_ref, zk_kl_null, zk_kl_long, zk_kl_rf, zk_isr_ref, zk_isr_null, zk_isr_rf9, zk_c1_int, zk_c1_ref, zk_c1_null, zk_c1_rf, zk_psh_some, zk_psh_none, zk_nok_int, zk_nok_bool0, zk_nok_bool1, zk_nok_b, zk_fok_0, zk_fok_1, zk_fok_2, zk_fok_n, zk_fok_rf, zb_f, zb_p, zb_i, zb_a, zb_s, zk_nth_0, zk_nth_s, zk_fld_o, zk_put_o, zk_rv_eq, zk_ri_eq, zk_is_o, List.mem_cons, List.not_mem_nil, or_false, false_or, or_true, true_or, and_true, true_and, not_false_iff, not_true_eq_false, true_implies, false_implies, imp_self, implies_true, forall_const, zk_lit, zk_uj_ap, zk_un_ap, zk_un_un, zk_uj_uj, Nat.reduceEqDiff, eq_self, zk_bq, Bool.true_or, Bool.false_or, Nat.le_refl, Nat.zero_add, Nat.add_zero, Nat.reduceAdd, Nat.reduceLeDiff, Nat.le_zero_eq, and_self, and_false, false_and, ite_true, ite_false, Nat.zero_le, List.length_cons, List.length_nil, Option.some.injEq, forall_eq', reduceCtorEq, law_c2 hi hL, lv_0 hi hL, lc_0 hi hL, ht]
        rw [ho]
        exact h
      by_cases h36 : 36 ≤ k
      · exact go _ (tab_d h36 hk) (hn _ _ _ _ _ _ _ _ hli (by omega) (by omega))
      · match k, h36, go with
        | 0, _, go => exact go _ tab_0 (law_addRoom hG hi hL hli hc2 hs2 _ _ _ _ hn)
        | 1, _, go => exact go _ tab_1 (law_removeRoom hG hi hL hli hc2 hs2 _ _ _ _ hn)
        | 2, _, go => exact go _ tab_2 (law_setPeople hG hi hL hli hc2 hs2 _ _ _ _ hn)
        | 3, _, go => exact go _ tab_3 (law_addDoor hG hi hL hli hc2 hs2 _ _ _ _ hn)
        | 4, _, go => exact go _ tab_4 (law_addWindow hG hi hL hli hc2 hs2 _ _ _ _ hn)
        | 5, _, go => exact go _ tab_5 (law_addStairs hG hi hL hli hc2 hs2 _ _ _ _ hn)
        | 6, _, go => exact go _ tab_6 (law_shut hG hi hL hli hc2 hs2 _ _ _ _ hn)
        | 7, _, go => exact go _ tab_7 (law_removeDoor hG hi hL hli hc2 hs2 _ _ _ _ hn)
        | 8, _, go => exact go _ tab_8 (law_setLimit hG hi hL hli hc2 hs2 _ _ _ _ hn)
        | 9, _, go => exact go _ tab_9 (law_rooms hG hi hL hli hc2 hs2 _ _ _ _ hn)
        | 10, _, go => exact go _ tab_10 (law_doors hG hi hL hli hc2 hs2 _ _ _ _ hn)
        | 11, _, go => exact go _ tab_11 (law_stairs hG hi hL hli hc2 hs2 _ _ _ _ hn)
        | 12, _, go => exact go _ tab_12 (law_roomAt hG hi hL hli hc2 hs2 _ _ _ _ hn)
        | 13, _, go => exact go _ tab_13 (law_areJoined hG hi hL hli hc2 hs2 _ _ _ _ hn)
        | 14, _, go => exact go _ tab_14 (law_isLost hG hi hL hli hc2 hs2 _ _ _ _ hn)
        | 15, _, go => exact go _ tab_15 (law_farWay hG hi hL hli hc2 hs2 _ _ _ _ hn)
        | 16, _, go => exact go _ tab_16 (law_leaving hG hi hL hli hc2 hs2 _ _ _ _ hn)
        | 17, _, go => exact go _ tab_17 (law_middleWay hG hi hL hli hc2 hs2 _ _ _ _ hn)
        | 18, _, go => exact go _ tab_18 (law_depth hG hi hL hli hc2 hs2 _ _ _ _ hn)
        | 19, _, go => exact go _ tab_19 (law_way hG hi hL hli hc2 hs2 _ _ _ _ hn)
        | 20, _, go => exact go _ tab_20 (law_load hG hi hL hli hc2 hs2 _ _ _ _ hn)
        | 21, _, go => exact go _ tab_21 (law_stairsLoad hG hi hL hli hc2 hs2 _ _ _ _ hn)
        | 22, _, go => exact go _ tab_22 (law_timeOut hG hi hL hli hc2 hs2 _ _ _ _ hn)
        | 23, _, go => exact go _ tab_23 (law_left hG hi hL hli hc2 hs2 _ _ _ _ hn)
        | 24, _, go => exact go _ tab_24 (law_inRoom hG hi hL hli hc2 hs2 _ _ _ _ hn)
        | 25, _, go => exact go _ tab_25 (law_faults hG hi hL hli hc2 hs2 _ _ _ _ hn)
        | 26, _, go => exact go _ tab_26 (law_ruleOf hG hi hL hli hc2 hs2 _ _ _ _ hn)
        | 27, _, go => exact go _ tab_27 (law_whereOf hG hi hL hli hc2 hs2 _ _ _ _ hn)
        | 28, _, go => exact go _ tab_28 (law_howMuch hG hi hL hli hc2 hs2 _ _ _ _ hn)
        | 29, _, go => exact go _ tab_29 (law_broken hG hi hL hli hc2 hs2 _ _ _ _ hn)
        | 30, _, go => exact go _ tab_30 (law_meanWay hG hi hL hli hc2 hs2 _ _ _ _ hn)
        | 31, _, go => exact go _ tab_31 (law_faultsWith hG hi hL hli hc2 hs2 _ _ _ _ hn)
        | 32, _, go => exact go _ tab_32 (law_lostWithout hG hi hL hli hc2 hs2 _ _ _ _ hn)
        | 33, _, go => exact go _ tab_33 (law_timeWith hG hi hL hli hc2 hs2 _ _ _ _ hn)
        | 34, _, go => exact go _ tab_34 (law_mostPeople hG hi hL hli hc2 hs2 _ _ _ _ hn)
        | 35, _, go => exact go _ tab_35 (law_digest hG hi hL hli hc2 hs2 _ _ _ _ hn)
        | k + 36, h36, _ => exact absurd (Nat.le_add_left 36 k) h36
    · exact law_out hG hi h2 hL (by omega) (by omega)


