/-! the law: the questions of a step (mk_lh.py) -/
set_option maxHeartbeats 4000000 in
theorem law_quest {E : zk_E} {G : Nat → zk_L → List Value → zk_W zk_S → Prop} (hG : ∀ n pc L st w, zk_go E (zk_VT E) M_L_law (C_law E) (zl_P zk_S) (zl_X zk_S) G n pc L st w → G pc L st w) {J1 N1 : Nat → Nat → Int32} {Q : Nat → Nat → Option Nat} {O : zk_Hp} {U : zk_U} {sz cs ss d : Nat} {J N : Nat → Nat → Int32} (hI : HI E sz (J1, N1, Q, O, U) J N d) {k : Nat} (hd : d < 1000000) (hc : cs + 4000 ≤ 600074) (hs : ss + 24000 ≤ 7301550) (l0 l1 l5 l6 l7 l8 l9 l10 l11 l12 l13 l14 : Option Value)
    (h : ∀ (J2 N2 : Nat → Nat → Int32) (O2 : zk_Hp) (c2 s2 d2 : Nat) (l5 l6 l7 l8 l9 l10 l11 l12 l13 l14 : Option Value), HI E sz (J2, N2, Q, O2, U) J N d2 → d2 ≤ d + 1 → c2 ≤ cs + 4000 → s2 ≤ ss + 24000 → G 40 [l0, l1, some (.ref (zk_ad E 22)), some (.ref (zk_ad E 0)), some (.int (nI (k + 1))), l5, l6, l7, l8, l9, l10, l11, l12, l13, l14] [] ((J2, N2, Q, O2, U), sz, c2, s2)) : G 117 [l0, l1, some (.ref (zk_ad E 22)), some (.ref (zk_ad E 0)), some (.int (nI k)), l5, l6, l7, l8, l9, l10, l11, l12, l13, l14] [] ((J1, N1, Q, O, U), sz, cs, ss) := by
  have hmi := hI.1.1
  have hnr := hmi.1.1.2
  have hnd := hmi.1.2.1.2
  obtain ⟨T, hT⟩ : ∃ T, t_time J N (-1) 0 1000000 (g_p J N) = T := ⟨_, rfl⟩
  obtain ⟨F, hF⟩ : ∃ F, a_faults J N = F := ⟨_, rfl⟩
  have hFb : F ≤ 400 := by rw [← hF]; exact a_faults_le J N
  have fin : ∀ (J2 N2 : Nat → Nat → Int32) (O2 : zk_Hp) (c2 s2 d2 : Nat) (l6 l7 l8 l9 l10 l11 l12 l13 l14 : Option Value), HI E sz (J2, N2, Q, O2, U) J N d2 → d2 ≤ d + 1 → c2 ≤ cs + 4000 → s2 ≤ ss + 24000 → G 1102 [l0, l1, some (.ref (zk_ad E 22)), some (.ref (zk_ad E 0)), some (.int (nI k)), some (.long (a_dig J N)), l6, l7, l8, l9, l10, l11, l12, l13, l14] [] ((J2, N2, Q, O2, U), sz, c2, s2) := by
    intro J2 N2 O2 c2 s2 d2 l6 l7 l8 l9 l10 l11 l12 l13 l14 hI2 g1 g2 g3
    refine law_1102 hG hI2 (by omega) (by omega) _ _ _ _ _ _ _ _ _ _ _ _ (fun J3 N3 hI3 => ?_)
    refine law_1114 hG (nI k) _ _ _ _ _ _ _ _ _ _ _ _ ?_
    rw [n_succ]
    exact h _ _ _ _ _ _ _ _ _ _ _ _ _ _ _ _ hI3 g1 g2 g3
  refine law_117 hG hI (by omega) (by omega) _ _ _ _ _ _ _ _ _ _ _ _ (nI k) (fun J2 N2 hI2 => ?_)
  refine law_rooms hG _ _ _ _ (m_nr J) 0 cs ss J2 N2 _ _ _ _ _ _ hI2 (by omega) (by omega) (by omega) (fun J3 N3 c3 s3 l6 l9 l10 l11 l12 l13 l14 hI3 g1 g2 => ?_)
  refine law_537 hG hI3 hT (by omega) (by omega) _ _ _ _ _ _ _ _ _ _ _ (fun J4 N4 c4 s4 hI4 g3 g4 => ?_)
  refine law_ticks hG _ _ _ _ _ _ _ _ _ (nI T) 7 0 c4 s4 J4 N4 _ _ hI4 (by omega) (by omega) (by omega) (fun J5 N5 c5 s5 l11 l12 hI5 g5 g6 => ?_)
  refine law_697 hG hI5 (nI T) (by omega) (by omega) _ _ _ _ _ _ _ _ _ _ _ _ (fun J6 N6 hI6 => ?_)
  rw [hF]
  refine law_rules hG _ _ _ _ _ _ _ _ _ _ (nI F) 10 0 c5 s5 J6 N6 hI6 (by omega) (by omega) (by omega) (fun J7 N7 c7 s7 hI7 g7 g8 => ?_)
  rw [hF]
  refine law_733 hG (f := F) _ _ _ _ _ _ _ _ _ _ _ ?_
  refine law_faults hG _ _ _ _ _ _ _ _ _ _ (nI F) hF F 0 c7 s7 J7 N7 hI7 (by omega) (by omega) (by omega) (fun J8 N8 c8 s8 hI8 g9 g10 => ?_)
  refine law_826 hG (nI F) (nI F) _ _ _ _ _ _ _ _ _ _ _ ?_
  refine law_doors hG hT _ _ _ _ _ _ _ _ (nI F) (m_nd J) 0 c8 s8 J8 N8 _ hI8 (by omega) (by omega) (by omega) (fun J9 N9 c9 s9 l13 hI9 g11 g12 => ?_)
  refine law_981 hG hI9 hd (by omega) (by omega) _ _ _ _ _ _ _ _ _ _ _ (nI F) (nI (m_nd J)) (fun hI => ?_) (fun j J10 hj hI10 => ?_)
  · refine law_1002m hG _ _ _ _ _ _ _ _ _ _ _ _ ?_
    exact fin _ _ _ _ _ _ _ _ _ _ _ _ _ _ _ hI (by omega) (by omega) (by omega)
  · refine law_1002 hG hI10 hj (by omega) (by omega) _ _ _ _ _ _ _ _ _ _ _ _ (fun J11 N11 O11 c11 s11 l12 l13 l14 hI11 g13 g14 => ?_)
    exact fin _ _ _ _ _ _ _ _ _ _ _ _ _ _ _ hI11 (by omega) (by omega) (by omega)

