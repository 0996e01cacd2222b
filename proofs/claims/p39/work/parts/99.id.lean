/-! the law's questions, between the House's steps (mk_id.py) -/
theorem HI.ke {E : zk_E} {sz d : Nat} {J1 N1 J2 N2 : Nat → Nat → Int32} {R : (Nat → Nat → Option Nat) × zk_Hp × zk_U} {J N : Nat → Nat → Int32} (h : HI E sz (J1, N1, R) J N d) (k : KE J1 J2 N1 N2) (hc : J2 0 4 = 0 ∨ CF J N J2 N2) : HI E sz (J2, N2, R) J N d := by
  obtain ⟨⟨h1, h2, h3⟩, h4, h5, h6, h7⟩ := h
  have e1 : ∀ o q, ¬ o = 0 → ¬ o = 18 → J2 o q = J1 o q := fun o q g1 g2 => k.1 o q (fun w => g1 w.1) (fun w => g2 w.1)
  obtain ⟨a1, a2, a3, a4, a5⟩ := h2.1
  refine ⟨⟨h1, ⟨⟨?_, ?_, ?_, ?_, fun i hi => ?_⟩, h2.2⟩, hc⟩, ⟨⟨?_, ?_, ?_, ?_⟩, h4.2⟩, h5, ?_, h7⟩
  · exact (e1 1 5 (by decide) (by decide)).trans a1
  · exact (e1 1 6 (by decide) (by decide)).trans a2
  · exact (e1 1 7 (by decide) (by decide)).trans a3
  · exact (e1 1 8 (by decide) (by decide)).trans a4
  · have e2 : N2 6 = N1 6 := k.2 6 (Or.inl (by decide))
    show N2 6 i = _
    rw [e2]
    exact a5 i hi
  · exact (e1 22 3 (by decide) (by decide)).trans h4.1.1
  · exact (e1 22 5 (by decide) (by decide)).trans h4.1.2.1
  · exact (e1 22 7 (by decide) (by decide)).trans h4.1.2.2.1
  · exact (e1 22 9 (by decide) (by decide)).trans h4.1.2.2.2
  · exact (e1 22 2 (by decide) (by decide)).trans h6
section HQ
variable {E : zk_E} {sz d : Nat} {J1 N1 : Nat → Nat → Int32} {Q : Nat → Nat → Option Nat} {O : zk_Hp} {U : zk_U} {J N : Nat → Nat → Int32} {P : zk_P zk_S} {PX : zk_X zk_S}
theorem HI.base (hI : HI E sz (J1, N1, Q, O, U) J N d) : E.1 ≤ sz := Nat.le_trans (Nat.le_add_right _ 28) hI.2.2.2.2
theorem hq_depth (hI : HI E sz (J1, N1, Q, O, U) J N d) {j : Nat} (hj : MR J N j) (h : ∀ J2 N2, HI E sz (J2, N2, Q, O, U) J N d → P (some (.int (g_deep J N j))) (J2, N2, Q, O, U) sz) : zk_lf E (sp_X10_depth E) [.ref (zk_ad E 0), .int (nI j)] (J1, N1, Q, O, U) sz P PX := ⟨hI.base, rfl, J, N, hI.1, Or.inl ⟨j, hj, rfl, fun J2 N2 k c => h J2 N2 (hI.ke k c)⟩⟩
theorem hq_isLost (hI : HI E sz (J1, N1, Q, O, U) J N d) {j : Nat} (hj : MR J N j) (h : ∀ J2 N2, HI E sz (J2, N2, Q, O, U) J N d → P (some (.int (zk_b (a_isLost J N j)))) (J2, N2, Q, O, U) sz) : zk_lf E (sp_X10_isLost E) [.ref (zk_ad E 0), .int (nI j)] (J1, N1, Q, O, U) sz P PX := ⟨hI.base, rfl, J, N, hI.1, Or.inl ⟨j, hj, rfl, fun J2 N2 k c => h J2 N2 (hI.ke k c)⟩⟩
theorem hq_leaving (hI : HI E sz (J1, N1, Q, O, U) J N d) {j : Nat} (hj : MR J N j) (h : ∀ J2 N2, HI E sz (J2, N2, Q, O, U) J N d → P (some (.int (a_leav J N j))) (J2, N2, Q, O, U) sz) : zk_lf E (sp_X10_leaving E) [.ref (zk_ad E 0), .int (nI j)] (J1, N1, Q, O, U) sz P PX := ⟨hI.base, rfl, J, N, hI.1, Or.inl ⟨j, hj, rfl, fun J2 N2 k c => h J2 N2 (hI.ke k c)⟩⟩
theorem hq_farWay (hI : HI E sz (J1, N1, Q, O, U) J N d) {j : Nat} (hj : MR J N j) (h : ∀ J2 N2, HI E sz (J2, N2, Q, O, U) J N d → P (some (.int (a_far J N j))) (J2, N2, Q, O, U) sz) : zk_lf E (sp_X10_farWay E) [.ref (zk_ad E 0), .int (nI j)] (J1, N1, Q, O, U) sz P PX := ⟨hI.base, rfl, J, N, hI.1, Or.inl ⟨j, hj, rfl, fun J2 N2 k c => h J2 N2 (hI.ke k c)⟩⟩
theorem hq_middleWay (hI : HI E sz (J1, N1, Q, O, U) J N d) {j : Nat} (hj : MR J N j) (h : ∀ J2 N2, HI E sz (J2, N2, Q, O, U) J N d → P (some (.int (a_mid J N j))) (J2, N2, Q, O, U) sz) : zk_lf E (sp_X10_middleWay E) [.ref (zk_ad E 0), .int (nI j)] (J1, N1, Q, O, U) sz P PX := ⟨hI.base, rfl, J, N, hI.1, Or.inl ⟨j, hj, rfl, fun J2 N2 k c => h J2 N2 (hI.ke k c)⟩⟩
theorem hq_timeOut (hI : HI E sz (J1, N1, Q, O, U) J N d) (h : ∀ J2 N2, HI E sz (J2, N2, Q, O, U) J N d → P (some (.int (a_time J N (-1) 0))) (J2, N2, Q, O, U) sz) : zk_lf E (sp_X10_timeOut E) [.ref (zk_ad E 0)] (J1, N1, Q, O, U) sz P PX := ⟨hI.base, rfl, J, N, hI.1, fun J2 N2 k c => h J2 N2 (hI.ke k c)⟩
theorem hq_faults (hI : HI E sz (J1, N1, Q, O, U) J N d) (h : ∀ J2 N2, HI E sz (J2, N2, Q, O, U) J N d → P (some (.int (nI (a_faults J N)))) (J2, N2, Q, O, U) sz) : zk_lf E (sp_X10_faults E) [.ref (zk_ad E 0)] (J1, N1, Q, O, U) sz P PX := ⟨hI.base, rfl, J, N, hI.1, fun J2 N2 k c => h J2 N2 (hI.ke k c)⟩
theorem hq_digest (hI : HI E sz (J1, N1, Q, O, U) J N d) (h : ∀ J2 N2, HI E sz (J2, N2, Q, O, U) J N d → P (some (.long (a_dig J N))) (J2, N2, Q, O, U) sz) : zk_lf E (sp_X10_digest E) [.ref (zk_ad E 0)] (J1, N1, Q, O, U) sz P PX := ⟨hI.base, rfl, J, N, hI.1, fun J2 N2 k c => h J2 N2 (hI.ke k c)⟩
theorem hq_left (hI : HI E sz (J1, N1, Q, O, U) J N d) {n : Nat} (hn : n ≤ 999) (h : ∀ J2 N2, HI E sz (J2, N2, Q, O, U) J N d → P (some (.int (a_left J N n))) (J2, N2, Q, O, U) sz) : zk_lf E (sp_X10_left E) [.ref (zk_ad E 0), .int (nI n)] (J1, N1, Q, O, U) sz P PX := ⟨hI.base, rfl, J, N, hI.1, fun w => absurd ((n_isIn (n := 1000) (by decide) (Nat.lt_succ_of_le hn) rfl).symm.trans w) (by decide), fun _ => by rw [n_cl (Nat.lt_of_le_of_lt hn (by decide))]; exact fun J2 N2 k c => h J2 N2 (hI.ke k c)⟩
theorem hq_inRoom (hI : HI E sz (J1, N1, Q, O, U) J N d) {j n : Nat} (hj : MR J N j) (hn : n ≤ 999) (h : ∀ J2 N2, HI E sz (J2, N2, Q, O, U) J N d → P (some (.int (a_inR J N n j))) (J2, N2, Q, O, U) sz) : zk_lf E (sp_X10_inRoom E) [.ref (zk_ad E 0), .int (nI j), .int (nI n)] (J1, N1, Q, O, U) sz P PX := ⟨hI.base, rfl, J, N, hI.1, Or.inl ⟨j, hj, rfl, fun w => absurd ((n_isIn (n := 1000) (by decide) (Nat.lt_succ_of_le hn) rfl).symm.trans w) (by decide), fun _ => by rw [n_cl (Nat.lt_of_le_of_lt hn (by decide))]; exact fun J2 N2 k c => h J2 N2 (hI.ke k c)⟩⟩
theorem hq_broken (hI : HI E sz (J1, N1, Q, O, U) J N d) {r : Nat} (hr : r < 10) (h : ∀ J2 N2, HI E sz (J2, N2, Q, O, U) J N d → P (some (.int (nI (a_brk J N (nI r))))) (J2, N2, Q, O, U) sz) : zk_lf E (sp_X10_broken E) [.ref (zk_ad E 0), .int (nI r)] (J1, N1, Q, O, U) sz P PX := ⟨hI.base, rfl, J, N, hI.1, fun w => absurd ((n_isIn (n := 10) (by decide) hr rfl).symm.trans w) (by decide), fun _ => fun J2 N2 k c => h J2 N2 (hI.ke k c)⟩
theorem hq_howMuch (hI : HI E sz (J1, N1, Q, O, U) J N d) {i : Nat} (hi : i < a_faults J N) (hb : a_faults J N < 2 ^ 30) (h : ∀ J2 N2, HI E sz (J2, N2, Q, O, U) J N d → P (some (.int (a_fq J N i 2))) (J2, N2, Q, O, U) sz) : zk_lf E (sp_X10_howMuch E) [.ref (zk_ad E 0), .int (nI i)] (J1, N1, Q, O, U) sz P PX := ⟨hI.base, rfl, J, N, hI.1, fun w => absurd ((n_isIn hb hi rfl).symm.trans w) (by decide), fun _ => by rw [n_cl (Nat.lt_trans (Nat.lt_trans hi hb) (by decide))]; exact fun J2 N2 k c => h J2 N2 (hI.ke k c)⟩
theorem hq_ruleOf (hI : HI E sz (J1, N1, Q, O, U) J N d) {i : Nat} (hi : i < a_faults J N) (hb : a_faults J N < 2 ^ 30) (h : ∀ J2 N2, HI E sz (J2, N2, Q, O, U) J N d → P (some (.int (a_fq J N i 0))) (J2, N2, Q, O, U) sz) : zk_lf E (sp_X10_ruleOf E) [.ref (zk_ad E 0), .int (nI i)] (J1, N1, Q, O, U) sz P PX := ⟨hI.base, rfl, J, N, hI.1, fun w => absurd ((n_isIn hb hi rfl).symm.trans w) (by decide), fun _ => by rw [n_cl (Nat.lt_trans (Nat.lt_trans hi hb) (by decide))]; exact fun J2 N2 k c => h J2 N2 (hI.ke k c)⟩
theorem hq_whereOf (hI : HI E sz (J1, N1, Q, O, U) J N d) {i : Nat} (hi : i < a_faults J N) (hb : a_faults J N < 2 ^ 30) (h : ∀ J2 N2, HI E sz (J2, N2, Q, O, U) J N d → P (some (.int (a_fq J N i 1))) (J2, N2, Q, O, U) sz) : zk_lf E (sp_X10_whereOf E) [.ref (zk_ad E 0), .int (nI i)] (J1, N1, Q, O, U) sz P PX := ⟨hI.base, rfl, J, N, hI.1, fun w => absurd ((n_isIn hb hi rfl).symm.trans w) (by decide), fun _ => by rw [n_cl (Nat.lt_trans (Nat.lt_trans hi hb) (by decide))]; exact fun J2 N2 k c => h J2 N2 (hI.ke k c)⟩
theorem hq_way0 (hI : HI E sz (J1, N1, Q, O, U) J N d) {j : Nat} (hj : MD J N j) (h : ∀ J2 N2, HI E sz (J2, N2, Q, O, U) J N d → P (some (.int (a_way J N (2 * j + 0)))) (J2, N2, Q, O, U) sz) : zk_lf E (sp_X10_way E) [.ref (zk_ad E 0), .int (nI j), .int 0] (J1, N1, Q, O, U) sz P PX := ⟨hI.base, rfl, Or.inl rfl, J, N, hI.1, Or.inl ⟨j, hj, rfl, fun J2 N2 k c => h J2 N2 (hI.ke k c)⟩⟩
theorem hq_way1 (hI : HI E sz (J1, N1, Q, O, U) J N d) {j : Nat} (hj : MD J N j) (h : ∀ J2 N2, HI E sz (J2, N2, Q, O, U) J N d → P (some (.int (a_way J N (2 * j + 1)))) (J2, N2, Q, O, U) sz) : zk_lf E (sp_X10_way E) [.ref (zk_ad E 0), .int (nI j), .int 1] (J1, N1, Q, O, U) sz P PX := ⟨hI.base, rfl, Or.inr rfl, J, N, hI.1, Or.inl ⟨j, hj, rfl, fun J2 N2 k c => h J2 N2 (hI.ke k c)⟩⟩
theorem hq_load (hI : HI E sz (J1, N1, Q, O, U) J N d) {j : Nat} (hj : MD J N j) (h : ∀ J2 N2, HI E sz (J2, N2, Q, O, U) J N d → P (some (.int (a_load J N j))) (J2, N2, Q, O, U) sz) : zk_lf E (sp_X10_load E) [.ref (zk_ad E 0), .int (nI j)] (J1, N1, Q, O, U) sz P PX := ⟨hI.base, rfl, J, N, hI.1, Or.inl ⟨j, hj, rfl, fun J2 N2 k c => h J2 N2 (hI.ke k c)⟩⟩
theorem hq_lostWithout (hI : HI E sz (J1, N1, Q, O, U) J N d) {j : Nat} (hj : MD J N j) (hs : ¬ N 36 j = 0) (h : ∀ J2 N2, HI E sz (J2, N2, Q, O, U) J N d → P (some (.int 0)) (J2, N2, Q, O, U) sz) : zk_lf E (sp_X10_lostWithout E) [.ref (zk_ad E 0), .int (nI j)] (J1, N1, Q, O, U) sz P PX := ⟨hI.base, rfl, J, N, hI.1, Or.inl ⟨j, hj, rfl, fun _ => fun J2 N2 k c => h J2 N2 (hI.ke k c), fun w => absurd w hs⟩⟩
theorem hq_16 {w : Nat} (hw : 1 ≤ w ∧ w ≤ 6) : m_isIn (nI w) 1 6 = true := by
  obtain ⟨h1, h2⟩ := hw
  match w, h1, h2 with
  | 1, _, _ => decide
  | 2, _, _ => decide
  | 3, _, _ => decide
  | 4, _, _ => decide
  | 5, _, _ => decide
  | 6, _, _ => decide
theorem hq_timeWith (hI : HI E sz (J1, N1, Q, O, U) J N d) {j w : Nat} (hj : MD J N j) (hw : 1 ≤ w ∧ w ≤ 6) (h : ∀ J2 N2, HI E sz (J2, N2, Q, O, U) J N d → P (some (.int (a_time J N (nI j) w))) (J2, N2, Q, O, U) sz) : zk_lf E (sp_X10_timeWith E) [.ref (zk_ad E 0), .int (nI j), .int (nI w)] (J1, N1, Q, O, U) sz P PX := ⟨hI.base, rfl, J, N, hI.1, Or.inl ⟨j, hj, rfl, fun z => absurd ((hq_16 hw).symm.trans z) (by decide), fun _ => by rw [n_cl (show w < 2 ^ 31 by omega)]; exact fun J2 N2 k c => h J2 N2 (hI.ke k c)⟩⟩
theorem hq_faultsWith (hI : HI E sz (J1, N1, Q, O, U) J N d) {j : Nat} (hj : MD J N j) (h : ∀ J2 N2, HI E sz (J2, N2, Q, O, U) J N d → P (some (.int (nI (a_faults J (m_tgl N j))))) (J2, N2, Q, O, U) sz) : zk_lf E (sp_X10_faultsWith E) [.ref (zk_ad E 0), .int (nI j)] (J1, N1, Q, O, U) sz P PX := ⟨hI.base, rfl, J, N, hI.1, Or.inl ⟨j, hj, rfl, fun J2 N2 k c => h J2 N2 (hI.ke k c)⟩⟩
end HQ

