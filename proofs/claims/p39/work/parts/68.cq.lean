/-! the class: who goes -/
theorem deep_gone {J N : Nat → Nat → Int32} {k : Nat} (hmi : MI J N) (hk : k < 20) (h : ¬ MR J N k) : g_deep J N k = -1 := by
  have l1 : lea J N k = 100 := by unfold lea; rw [bb_gone hmi hk h]
  unfold g_deep
  rw [g_dep_eq, if_neg (nI_ne1 (by omega)), n_cl (by omega), if_pos l1]
theorem t_out_iff {J N : Nat → Nat → Int32} {k : Nat} (hmi : MI J N) (hk : k < 20) : t_out J N k = decide (¬ g_deep J N k = -1) := by
  unfold t_out
  by_cases q : N 23 k = -2
  · rw [deep_gone hmi hk (fun w => w.2 q), decide_eq_false (not_not_intro q)]
    decide
  · rw [decide_eq_true q, Bool.true_and]
theorem t_out_mr {J N : Nat → Nat → Int32} {k : Nat} (hmi : MI J N) (hk : k < 20) (h : t_out J N k = true) : MR J N k := by
  rw [t_out_iff hmi hk] at h
  exact Classical.byContradiction fun w => of_decide_eq_true h (deep_gone hmi hk w)
theorem t_any_skip {J N : Nat → Nat → Int32} {f : Nat → Nat} {n : Nat} : ∀ k, (∀ i, n ≤ i → i < n + k → t_out J N i = false) → t_any J N f (n + k) = t_any J N f n
  | 0, _ => rfl
  | k + 1, h => by rw [← Nat.add_assoc, t_any, t_any_skip k (fun i a b => h i a (by omega)), h (n + k) (by omega) (by omega), Bool.false_and, Bool.or_false]
theorem t_any_20 {J N : Nat → Nat → Int32} (hmi : MI J N) (f : Nat → Nat) : t_any J N f 20 = t_any J N f (m_nr J) := by
  have hr20 := hmi.1.1.2
  have := t_any_skip (J := J) (N := N) (f := f) (n := m_nr J) (20 - m_nr J) (fun i h1 h2 => by
    cases z : t_out J N i with
    | false => rfl
    | true => exact absurd (t_out_mr hmi (by omega) z).1 (by omega))
  rwa [show m_nr J + (20 - m_nr J) = 20 by omega] at this
theorem t_mv_skip {J N : Nat → Nat → Int32} {g f : Nat → Nat} {n : Nat} : ∀ k, (∀ i, n ≤ i → i < n + k → g i = 0) → t_mv J N g f (n + k) = t_mv J N g f n
  | 0, _ => rfl
  | k + 1, h => by rw [← Nat.add_assoc, t_mv, if_pos (h (n + k) (by omega) (by omega)), t_mv_skip k (fun i a b => h i a (by omega))]
theorem t_mv_20 {J N : Nat → Nat → Int32} (hmi : MI J N) (door : Int32) (w : Nat) (f : Nat → Nat) : t_mv J N (t_go J N door w f) f 20 = t_tick J N door w f := by
  have hr20 := hmi.1.1.2
  have := t_mv_skip (J := J) (N := N) (g := t_go J N door w f) (f := f) (n := m_nr J) (20 - m_nr J) (fun i h1 h2 => by
    unfold t_go
    cases z : t_out J N i with
    | false => rfl
    | true => exact absurd (t_out_mr hmi (by omega) z).1 (by omega))
  rwa [show m_nr J + (20 - m_nr J) = 20 by omega] at this
/-- how many come through a door in a tick, one door as wide as is told -/
def FLD (J N : Nat → Nat → Int32) (fl : Nat → Int32) (door : Int32) (w : Nat) : Prop := ∀ d, d < 40 → MD J N d → fl d = nI (t_fl N door w d)
theorem fl0_ok {J N : Nat → Nat → Int32} (hmi : MI J N) : FLD J N (fl0 N) (-1) 0 := fun d hd hm => by
  have h := (hmi.2.2.1 d hm.1).2.2.2.1.eq (by decide)
  unfold fl0 t_fl
  rw [if_pos hd, if_neg (nI_ne1 (by omega)), h.1, show (2 : Int32) = nI 2 from rfl, n_mul, n_cl (by omega), Nat.mul_comm]
/-- who is inside -/
def WI (N1 : Nat → Nat → Int32) (f : Nat → Nat) : Prop := ∀ i, i < 20 → N1 16 i = nI (f i)
def sp_X0_gather (E : zk_E) : zk_Sp zk_S := fun av σ sz P PX => match av with
  | [.ref a, .ref p] => a = zk_ad E 15 ∧ p = zk_ad E 1 ∧ ∃ J N fl, MI J N ∧ XR E sz σ J N fl ∧ ∀ A, (∀ i, i < 20 → A i = nI (g_p J N i)) → P none (σ.1, zk_un σ.2.1 16 A, σ.2.2) sz
  | _ => False
theorem spe_X0_gather (E : zk_E) (a : Nat) (p : Nat) (σ : zk_S) (sz : Nat) (P : zk_P zk_S) (PX : zk_X zk_S) : sp_X0_gather E [.ref a, .ref p] σ sz P PX = (a = zk_ad E 15 ∧ p = zk_ad E 1 ∧ ∃ J N fl, MI J N ∧ XR E sz σ J N fl ∧ ∀ A, (∀ i, i < 20 → A i = nI (g_p J N i)) → P none (σ.1, zk_un σ.2.1 16 A, σ.2.2) sz) := propext Iff.rfl
def C_X0_gather (E : zk_E) : zk_Cl zk_S := zk_lka []
theorem r_X0_gather (E : zk_E) (P : zk_P zk_S) (PX : zk_X zk_S) (K : Nat → zk_L → List Value → zk_W zk_S → Prop) : (∀ (n : Nat) (l0 l1 l2 l3 : Option Value)  (r : List Value) (σ : zk_S) (sz k c : Nat), zk_run E (zk_VT E) M_X0_gather (C_X0_gather E) P PX K (n + 1) 0 [l0, l1, l2, l3] r (σ, sz, k, c) = zk_run E (zk_VT E) M_X0_gather (C_X0_gather E) P PX K n 1 [l0, l1, l2, l3] (.int (0) :: r) (σ, sz, k, c)) ∧
  (∀ (n : Nat) (l0 l1 l2 l3 : Option Value) (x : Int32) (r : List Value) (σ : zk_S) (sz k c : Nat), zk_run E (zk_VT E) M_X0_gather (C_X0_gather E) P PX K (n + 1) 1 [l0, l1, l2, l3] (.int x :: r) (σ, sz, k, c) = zk_run E (zk_VT E) M_X0_gather (C_X0_gather E) P PX K n 2 [l0, zk_kl l1, some (.int x), l3] r (σ, sz, k, c)) ∧
  (∀ (n : Nat) (l0 l1 l2 l3 : Option Value)  (r : List Value) (σ : zk_S) (sz k c : Nat), zk_run E (zk_VT E) M_X0_gather (C_X0_gather E) P PX K (n + 1) 2 [l0, l1, l2, l3] r (σ, sz, k, c) = K 2 [l0, l1, l2, l3] r (σ, sz, k, c)) ∧
  (∀ (n : Nat) (l0 l1 l2 l3 : Option Value)  (r : List Value) (σ : zk_S) (sz k c : Nat), zk_run E (zk_VT E) M_X0_gather (C_X0_gather E) P PX K (n + 1) 3 [l0, l1, l2, l3] r (σ, sz, k, c) = zk_run E (zk_VT E) M_X0_gather (C_X0_gather E) P PX K n 5 [l0, l1, l2, l3] (.int (20) :: r) (σ, sz, k, c)) ∧
  (∀ (n : Nat) (l0 l1 l2 l3 : Option Value) (x y : Int32) (r : List Value) (σ : zk_S) (sz k c : Nat), zk_run E (zk_VT E) M_X0_gather (C_X0_gather E) P PX K (n + 1) 5 [l0, l1, l2, l3] (.int y :: .int x :: r) (σ, sz, k, c) = ((y ≤ x → zk_run E (zk_VT E) M_X0_gather (C_X0_gather E) P PX K n 39 [l0, l1, l2, l3] r (σ, sz, k, c)) ∧ (¬ (y ≤ x) → zk_run E (zk_VT E) M_X0_gather (C_X0_gather E) P PX K n 8 [l0, l1, l2, l3] r (σ, sz, k, c)))) ∧
  (∀ (n : Nat) (l0 l2 l3 : Option Value) (y1 : Value) (r : List Value) (σ : zk_S) (sz k c : Nat), zk_run E (zk_VT E) M_X0_gather (C_X0_gather E) P PX K (n + 1) 8 [l0, some y1, l2, l3] r (σ, sz, k, c) = (zk_isr y1 ∧ zk_run E (zk_VT E) M_X0_gather (C_X0_gather E) P PX K n 9 [l0, some y1, l2, l3] (y1 :: r) (σ, sz, k, c))) ∧
  (∀ (n : Nat) (l0 l1 l2 l3 : Option Value) (a : Nat) (r : List Value) (σ : zk_S) (sz k c : Nat), zk_run E (zk_VT E) M_X0_gather (C_X0_gather E) P PX K (n + 1) 9 [l0, l1, l2, l3] (.ref a :: r) (σ, sz, k, c) = zk_fld (zk_view E σ a) [4] 0 (fun v => zk_run E (zk_VT E) M_X0_gather (C_X0_gather E) P PX K n 12 [l0, l1, l2, l3] (v :: r) (σ, sz, k, c))) ∧
  (∀ (n : Nat) (l0 l1 l3 : Option Value) (y2 : Int32) (r : List Value) (σ : zk_S) (sz k c : Nat), zk_run E (zk_VT E) M_X0_gather (C_X0_gather E) P PX K (n + 1) 12 [l0, l1, some (.int y2), l3] r (σ, sz, k, c) = zk_run E (zk_VT E) M_X0_gather (C_X0_gather E) P PX K n 13 [l0, l1, some (.int y2), l3] (.int y2 :: r) (σ, sz, k, c)) ∧
  (∀ (n : Nat) (l0 l1 l2 l3 : Option Value) (a : Nat) (i : Int32) (r : List Value) (σ : zk_S) (sz k c : Nat), zk_run E (zk_VT E) M_X0_gather (C_X0_gather E) P PX K (n + 1) 13 [l0, l1, l2, l3] (.int i :: .ref a :: r) (σ, sz, k, c) = zk_qld (zk_view E σ a) i [zk_ar E 3, zk_ar E 4, zk_ar E 5, zk_ar E 6, zk_ar E 7] (fun x => (x = none → zk_run E (zk_VT E) M_X0_gather (C_X0_gather E) P PX K n 14 [l0, l1, l2, l3] (.null :: r) (σ, sz, k, c)) ∧ ∀ b, x = some b → zk_run E (zk_VT E) M_X0_gather (C_X0_gather E) P PX K n 14 [l0, l1, l2, l3] (.ref b :: r) (σ, sz, k, c))) ∧
  (∀ (n : Nat) (l0 l1 l2 l3 : Option Value) (x : Value) (r : List Value) (σ : zk_S) (sz k c : Nat), zk_run E (zk_VT E) M_X0_gather (C_X0_gather E) P PX K (n + 1) 14 [l0, l1, l2, l3] (x :: r) (σ, sz, k, c) = (zk_isr x ∧ zk_run E (zk_VT E) M_X0_gather (C_X0_gather E) P PX K n 15 [l0, l1, zk_kl l2, some (x)] r (σ, sz, k, c))) ∧
  (∀ (n : Nat) (l1 l2 l3 : Option Value) (y0 : Value) (r : List Value) (σ : zk_S) (sz k c : Nat), zk_run E (zk_VT E) M_X0_gather (C_X0_gather E) P PX K (n + 1) 15 [some y0, l1, l2, l3] r (σ, sz, k, c) = (zk_isr y0 ∧ zk_run E (zk_VT E) M_X0_gather (C_X0_gather E) P PX K n 16 [some y0, l1, l2, l3] (y0 :: r) (σ, sz, k, c))) ∧
  (∀ (n : Nat) (l0 l1 l2 l3 : Option Value) (a : Nat) (r : List Value) (σ : zk_S) (sz k c : Nat), zk_run E (zk_VT E) M_X0_gather (C_X0_gather E) P PX K (n + 1) 16 [l0, l1, l2, l3] (.ref a :: r) (σ, sz, k, c) = zk_fld (zk_view E σ a) [0] 0 (fun v => zk_run E (zk_VT E) M_X0_gather (C_X0_gather E) P PX K n 19 [l0, l1, l2, l3] (v :: r) (σ, sz, k, c))) ∧
  (∀ (n : Nat) (l0 l1 l3 : Option Value) (y2 : Int32) (r : List Value) (σ : zk_S) (sz k c : Nat), zk_run E (zk_VT E) M_X0_gather (C_X0_gather E) P PX K (n + 1) 19 [l0, l1, some (.int y2), l3] r (σ, sz, k, c) = zk_run E (zk_VT E) M_X0_gather (C_X0_gather E) P PX K n 20 [l0, l1, some (.int y2), l3] (.int y2 :: r) (σ, sz, k, c)) ∧
  (∀ (n : Nat) (l0 l1 l2 : Option Value) (y3 : Value) (r : List Value) (σ : zk_S) (sz k c : Nat), zk_run E (zk_VT E) M_X0_gather (C_X0_gather E) P PX K (n + 1) 20 [l0, l1, l2, some y3] r (σ, sz, k, c) = (zk_isr y3 ∧ zk_run E (zk_VT E) M_X0_gather (C_X0_gather E) P PX K n 21 [l0, l1, l2, some y3] (y3 :: r) (σ, sz, k, c))) ∧
  (∀ (n : Nat) (l0 l1 l2 l3 : Option Value) (v : Value) (r : List Value) (σ : zk_S) (sz k c : Nat), zk_run E (zk_VT E) M_X0_gather (C_X0_gather E) P PX K (n + 1) 21 [l0, l1, l2, l3] (v :: r) (σ, sz, k, c) = (zk_isr v ∧ (¬ v = .null → zk_run E (zk_VT E) M_X0_gather (C_X0_gather E) P PX K n 28 [l0, l1, l2, l3] r (σ, sz, k, c)) ∧ (¬ (¬ v = .null) → zk_run E (zk_VT E) M_X0_gather (C_X0_gather E) P PX K n 24 [l0, l1, l2, l3] r (σ, sz, k, c)))) ∧
  (∀ (n : Nat) (l0 l1 l2 l3 : Option Value)  (r : List Value) (σ : zk_S) (sz k c : Nat), zk_run E (zk_VT E) M_X0_gather (C_X0_gather E) P PX K (n + 1) 24 [l0, l1, l2, l3] r (σ, sz, k, c) = zk_run E (zk_VT E) M_X0_gather (C_X0_gather E) P PX K n 25 [l0, l1, l2, l3] (.int (0) :: r) (σ, sz, k, c)) ∧
  (∀ (n : Nat) (l0 l1 l2 l3 : Option Value)  (r : List Value) (σ : zk_S) (sz k c : Nat), zk_run E (zk_VT E) M_X0_gather (C_X0_gather E) P PX K (n + 1) 25 [l0, l1, l2, l3] r (σ, sz, k, c) = zk_run E (zk_VT E) M_X0_gather (C_X0_gather E) P PX K n 32 [l0, l1, l2, l3] r (σ, sz, k, c)) ∧
  (∀ (n : Nat) (l0 l1 l2 : Option Value) (y3 : Value) (r : List Value) (σ : zk_S) (sz k c : Nat), zk_run E (zk_VT E) M_X0_gather (C_X0_gather E) P PX K (n + 1) 28 [l0, l1, l2, some y3] r (σ, sz, k, c) = (zk_isr y3 ∧ zk_run E (zk_VT E) M_X0_gather (C_X0_gather E) P PX K n 29 [l0, l1, l2, some y3] (y3 :: r) (σ, sz, k, c))) ∧
  (∀ (n : Nat) (l0 l1 l2 l3 : Option Value) (a : Nat) (r : List Value) (σ : zk_S) (sz k c : Nat), zk_run E (zk_VT E) M_X0_gather (C_X0_gather E) P PX K (n + 1) 29 [l0, l1, l2, l3] (.ref a :: r) (σ, sz, k, c) = zk_fld (zk_view E σ a) [5] 7 (fun v => zk_run E (zk_VT E) M_X0_gather (C_X0_gather E) P PX K n 32 [l0, l1, l2, l3] (v :: r) (σ, sz, k, c))) ∧
  (∀ (n : Nat) (l0 l1 l2 l3 : Option Value) (a : Nat) (i x : Int32) (r : List Value) (σ : zk_S) (sz k c : Nat), zk_run E (zk_VT E) M_X0_gather (C_X0_gather E) P PX K (n + 1) 32 [l0, l1, l2, l3] (.int x :: .int i :: .ref a :: r) (σ, sz, k, c) = zk_ist (zk_view E σ a) (zk_ar E 0) i x (fun e => zk_wrok E σ a e ∧ zk_run E (zk_VT E) M_X0_gather (C_X0_gather E) P PX K n 33 [l0, l1, l2, l3] r (zk_wr E σ a e, sz, k, c))) ∧
  (∀ (n : Nat) (l0 l1 l3 : Option Value) (y2 : Int32) (r : List Value) (σ : zk_S) (sz k c : Nat), zk_run E (zk_VT E) M_X0_gather (C_X0_gather E) P PX K (n + 1) 33 [l0, l1, some (.int y2), l3] r (σ, sz, k, c) = zk_run E (zk_VT E) M_X0_gather (C_X0_gather E) P PX K n 36 [l0, zk_kl l1, some (.int (y2 + 1)), l3] r (σ, sz, k, c)) ∧
  (∀ (n : Nat) (l0 l1 l2 l3 : Option Value)  (r : List Value) (σ : zk_S) (sz k c : Nat), zk_run E (zk_VT E) M_X0_gather (C_X0_gather E) P PX K (n + 1) 36 [l0, l1, l2, l3] r (σ, sz, k, c) = zk_run E (zk_VT E) M_X0_gather (C_X0_gather E) P PX K n 2 [l0, l1, l2, l3] r (σ, sz, k, c)) ∧
  (∀ (n : Nat) (l0 l1 l2 l3 : Option Value)   (σ : zk_S) (sz k c : Nat), zk_run E (zk_VT E) M_X0_gather (C_X0_gather E) P PX K (n + 1) 39 [l0, l1, l2, l3] [] (σ, sz, k, c) = (P none σ sz ∧ k ≤ 0 ∧ c ≤ 0)) ∧
  (∀ (n : Nat) (l0 l1 l2 l3 : Option Value) (r : List Value) (w : zk_W zk_S), zk_go E (zk_VT E) M_X0_gather (C_X0_gather E) P PX K n 0 [l0, l1, l2, l3] r w = zk_run E (zk_VT E) M_X0_gather (C_X0_gather E) P PX K (n + 1) 0 [l0, l1, l2, l3] r w) ∧
  (∀ (n : Nat) (l0 l1 l3 : Option Value) (y2 : Int32) (r : List Value) (σ : zk_S) (sz k c : Nat), zk_go E (zk_VT E) M_X0_gather (C_X0_gather E) P PX K n 2 [l0, l1, some (.int y2), l3] r (σ, sz, k, c) = zk_run E (zk_VT E) M_X0_gather (C_X0_gather E) P PX K n 3 [l0, l1, some (.int y2), l3] (.int y2 :: r) (σ, sz, k, c)) := ⟨by intros; rfl, by intros; rfl, by intros; rfl, by intros; rfl, by intros; rfl, by intros; rfl, by intros; rfl, by intros; rfl, by intros; rfl, by intros; rfl, by intros; rfl, by intros; rfl, by intros; rfl, by intros; rfl, by intros; rfl, by intros; rfl, by intros; rfl, by intros; rfl, by intros; rfl, by intros; rfl, by intros; rfl, by intros; rfl, by intros; rfl, by intros; rfl, by intros; rfl⟩
theorem vc_X0_gather (E : zk_E) : zk_VC E (zk_VT E) M_X0_gather (C_X0_gather E) 4 (sp_X0_gather E) := by
  intro av σ sz P PX h
  obtain ⟨J, N, Q, O, U⟩ := σ
  unfold sp_X0_gather at h
  split at h
  case h_2 => exact h.elim
  rename_i a0 p
  obtain ⟨rfl, h⟩ := h
  refine ⟨Nat.le_of_ble_eq_true rfl, fun G hG => ?_⟩
  change G 0 [some (.ref (zk_ad E 15)), some (.ref p), none, none] [] ((J, N, Q, O, U), sz, 0, 0)
  try dsimp only at h
  obtain ⟨rfl, J1, N1, fl, hmi, hxr, h⟩ := h
  have loop : ∀ m k A l3, k + m = 20 → (∀ i, i < k → A i = nI (g_p J1 N1 i)) → G 2 [some (.ref (zk_ad E 15)), some (.ref (zk_ad E 1)), some (.int (nI k)), l3] [] ((J, zk_un N 16 A, Q, O, U), sz, 0, 0) := by
    intro m
    induction m with
    | zero =>
      intro k A l3 hk hA
      have c1 : (20 : Int32) ≤ nI k := (nI_le (a := 20) (by omega) (by omega) : nI 20 ≤ nI k)
      (refine hG 900 _ _ _ _ ?_; simp only [r_X0_gather, zk_kl_none, zk_kl_int, zk_kl_ref, zk_kl_null, zk_kl_long, zk_kl_rf, zk_isr_ref, zk_isr_null, zk_isr_rf9, zk_c1_int, zk_c1_ref, zk_c1_null, zk_c1_rf, zk_psh_some, zk_psh_none, zk_nok_int, zk_nok_bool0, zk_nok_bool1, zk_nok_b, zk_fok_0, zk_fok_1, zk_fok_2, zk_fok_n, zk_fok_rf, zb_f, zb_p, zb_i, zb_a, zb_s, zk_nth_0, zk_nth_s, zk_fld_o, zk_put_o, zk_rv_eq, zk_ri_eq, zk_is_o, List.mem_cons, List.not_mem_nil, or_false, false_or, or_true, true_or, and_true, true_and, not_false_iff, not_true_eq_false, true_implies, false_implies, imp_self, implies_true, forall_const, zk_lit, zk_uj_ap, zk_un_ap, zk_un_un, zk_uj_uj, Nat.reduceEqDiff, eq_self, zk_bq, Bool.true_or, Bool.false_or, Nat.le_refl, Nat.zero_add, Nat.add_zero, Nat.reduceAdd, Nat.reduceLeDiff, Nat.le_zero_eq, and_self, and_false, false_and, ite_true, ite_false, Nat.zero_le, List.length_cons, List.length_nil, Option.some.injEq, forall_eq', reduceCtorEq, c1])
      exact h A (fun i hi => hA i (by omega))
    | succ m ih =>
      intro k A l3 hk hA
      have c1 : ¬ (20 : Int32) ≤ nI k := (nI_ge (b := 20) (by omega) (by decide) : ¬ nI 20 ≤ nI k)
      have hin : vp_in (nI k) 20 := n_in (by omega) (by decide)
      have hcl : (nI k).toNatClampNeg = k := n_cl (by omega)
      have ih2 := fun l3 => ih (k + 1) (upd A k (nI (g_p J1 N1 k))) l3 (by omega) (fun q hq => by
        by_cases z : q = k
        · rw [z, upd_self]
        · rw [upd_ne _ _ z]; exact hA q (by omega))
      rcases hxr.2.1 k (by omega) with ⟨b, hj, hb, hbo, hOb⟩ | ⟨nm, hb⟩
      · have hb : Q 2 k = some b := hb
        have hOb : O b = some (xrm N1 k) := hOb
        have hb1 := hbo.1
        have b7 : ∀ F : Value → Prop, zk_fld (O b) [5] 7 F = F (.int (N1 29 k)) := fun F => by rw [hOb]; simp [zk_fld_o, xrm, cR, zk_nth]
        have e0 : nI (g_p J1 N1 k) = N1 29 k := by
          unfold g_p
          rw [if_pos ⟨hj.1, hj.2⟩]
          exact ((hmi.2.1 k hj.1).2.2.2.2.2.2.eq (by decide)).1.symm
        rw [e0] at ih2
        (refine hG 900 _ _ _ _ ?_; simp only [r_X0_gather, zk_kl_none, zk_kl_int, zk_kl_ref, zk_kl_null, zk_kl_long, zk_kl_rf, zk_isr_ref, zk_isr_null, zk_isr_rf9, zk_c1_int, zk_c1_ref, zk_c1_null, zk_c1_rf, zk_psh_some, zk_psh_none, zk_nok_int, zk_nok_bool0, zk_nok_bool1, zk_nok_b, zk_fok_0, zk_fok_1, zk_fok_2, zk_fok_n, zk_fok_rf, zb_f, zb_p, zb_i, zb_a, zb_s, zk_nth_0, zk_nth_s, zk_fld_o, zk_put_o, zk_rv_eq, zk_ri_eq, zk_is_o, List.mem_cons, List.not_mem_nil, or_false, false_or, or_true, true_or, and_true, true_and, not_false_iff, not_true_eq_false, true_implies, false_implies, imp_self, implies_true, forall_const, zk_lit, zk_uj_ap, zk_un_ap, zk_un_un, zk_uj_uj, Nat.reduceEqDiff, eq_self, zk_bq, Bool.true_or, Bool.false_or, Nat.le_refl, Nat.zero_add, Nat.add_zero, Nat.reduceAdd, Nat.reduceLeDiff, Nat.le_zero_eq, and_self, and_false, false_and, ite_true, ite_false, Nat.zero_le, List.length_cons, List.length_nil, Option.some.injEq, forall_eq', reduceCtorEq, c1, hin, hcl, hb, zk_vd hb1, b7, zk_un_un, n_succ])
        exact ih2 _
      · have hb : Q 2 k = none := hb
        have e0 : nI (g_p J1 N1 k) = 0 := by
          unfold g_p
          rw [if_neg (fun w => nm ⟨w.1, w.2⟩)]
          rfl
        rw [e0] at ih2
        (refine hG 900 _ _ _ _ ?_; simp only [r_X0_gather, zk_kl_none, zk_kl_int, zk_kl_ref, zk_kl_null, zk_kl_long, zk_kl_rf, zk_isr_ref, zk_isr_null, zk_isr_rf9, zk_c1_int, zk_c1_ref, zk_c1_null, zk_c1_rf, zk_psh_some, zk_psh_none, zk_nok_int, zk_nok_bool0, zk_nok_bool1, zk_nok_b, zk_fok_0, zk_fok_1, zk_fok_2, zk_fok_n, zk_fok_rf, zb_f, zb_p, zb_i, zb_a, zb_s, zk_nth_0, zk_nth_s, zk_fld_o, zk_put_o, zk_rv_eq, zk_ri_eq, zk_is_o, List.mem_cons, List.not_mem_nil, or_false, false_or, or_true, true_or, and_true, true_and, not_false_iff, not_true_eq_false, true_implies, false_implies, imp_self, implies_true, forall_const, zk_lit, zk_uj_ap, zk_un_ap, zk_un_un, zk_uj_uj, Nat.reduceEqDiff, eq_self, zk_bq, Bool.true_or, Bool.false_or, Nat.le_refl, Nat.zero_add, Nat.add_zero, Nat.reduceAdd, Nat.reduceLeDiff, Nat.le_zero_eq, and_self, and_false, false_and, ite_true, ite_false, Nat.zero_le, List.length_cons, List.length_nil, Option.some.injEq, forall_eq', reduceCtorEq, c1, hin, hcl, hb, zk_un_un, n_succ])
        exact ih2 _
  have l0 := loop 20 0 (N 16) none (by omega) (fun q hq => absurd hq (Nat.not_lt_zero q))
  rw [zk_un_self N 16] at l0
  (refine hG 900 _ _ _ _ ?_; simp only [r_X0_gather, zk_kl_none, zk_kl_int, zk_kl_ref, zk_kl_null, zk_kl_long, zk_kl_rf, zk_isr_ref, zk_isr_null, zk_isr_rf9, zk_c1_int, zk_c1_ref, zk_c1_null, zk_c1_rf, zk_psh_some, zk_psh_none, zk_nok_int, zk_nok_bool0, zk_nok_bool1, zk_nok_b, zk_fok_0, zk_fok_1, zk_fok_2, zk_fok_n, zk_fok_rf, zb_f, zb_p, zb_i, zb_a, zb_s, zk_nth_0, zk_nth_s, zk_fld_o, zk_put_o, zk_rv_eq, zk_ri_eq, zk_is_o, List.mem_cons, List.not_mem_nil, or_false, false_or, or_true, true_or, and_true, true_and, not_false_iff, not_true_eq_false, true_implies, false_implies, imp_self, implies_true, forall_const, zk_lit, zk_uj_ap, zk_un_ap, zk_un_un, zk_uj_uj, Nat.reduceEqDiff, eq_self, zk_bq, Bool.true_or, Bool.false_or, Nat.le_refl, Nat.zero_add, Nat.add_zero, Nat.reduceAdd, Nat.reduceLeDiff, Nat.le_zero_eq, and_self, and_false, false_and, ite_true, ite_false, Nat.zero_le, List.length_cons, List.length_nil, Option.some.injEq, forall_eq', reduceCtorEq])
  exact l0
theorem ct_X0_gather {l : Launch} (hl : l.stackTraces = false) (E : zk_E) : zk_C l E (zk_VT E) yX0_gather cX0_gather 4 (none) rm_X0_gather (sp_X0_gather E) := by
  refine zk_meth (M := M_X0_gather) (C := C_X0_gather E) hl (by decide +kernel) rfl (fun _ _ => rfl) (zk_VT_ok E) MO_X0_gather TO_X0_gather THo_X0_gather ?_ (vc_X0_gather E)
  exact fun p e s m args below meth c X pc n mc ms sp2 h => absurd (zk_lka_mem h) List.not_mem_nil
def sp_X0_isAnyToGo (E : zk_E) : zk_Sp zk_S := fun av σ sz P PX => match av with
  | [.ref a, .ref w] => a = zk_ad E 15 ∧ w = zk_ad E 7 ∧ ∃ J N f, MI J N ∧ WDp J N σ.2.1 ∧ WI σ.2.1 f ∧ sumN f 20 ≤ 4000 ∧ P (some (.int (zk_b (t_any J N f (m_nr J))))) σ sz
  | _ => False
theorem spe_X0_isAnyToGo (E : zk_E) (a : Nat) (w : Nat) (σ : zk_S) (sz : Nat) (P : zk_P zk_S) (PX : zk_X zk_S) : sp_X0_isAnyToGo E [.ref a, .ref w] σ sz P PX = (a = zk_ad E 15 ∧ w = zk_ad E 7 ∧ ∃ J N f, MI J N ∧ WDp J N σ.2.1 ∧ WI σ.2.1 f ∧ sumN f 20 ≤ 4000 ∧ P (some (.int (zk_b (t_any J N f (m_nr J))))) σ sz) := propext Iff.rfl
def C_X0_isAnyToGo (E : zk_E) : zk_Cl zk_S := zk_lka []
theorem r_X0_isAnyToGo (E : zk_E) (P : zk_P zk_S) (PX : zk_X zk_S) (K : Nat → zk_L → List Value → zk_W zk_S → Prop) : (∀ (n : Nat) (l0 l1 l2 : Option Value)  (r : List Value) (σ : zk_S) (sz k c : Nat), zk_run E (zk_VT E) M_X0_isAnyToGo (C_X0_isAnyToGo E) P PX K (n + 1) 0 [l0, l1, l2] r (σ, sz, k, c) = zk_run E (zk_VT E) M_X0_isAnyToGo (C_X0_isAnyToGo E) P PX K n 1 [l0, l1, l2] (.int (0) :: r) (σ, sz, k, c)) ∧
  (∀ (n : Nat) (l0 l1 l2 : Option Value) (x : Int32) (r : List Value) (σ : zk_S) (sz k c : Nat), zk_run E (zk_VT E) M_X0_isAnyToGo (C_X0_isAnyToGo E) P PX K (n + 1) 1 [l0, l1, l2] (.int x :: r) (σ, sz, k, c) = zk_run E (zk_VT E) M_X0_isAnyToGo (C_X0_isAnyToGo E) P PX K n 2 [l0, zk_kl l1, some (.int x)] r (σ, sz, k, c)) ∧
  (∀ (n : Nat) (l0 l1 l2 : Option Value)  (r : List Value) (σ : zk_S) (sz k c : Nat), zk_run E (zk_VT E) M_X0_isAnyToGo (C_X0_isAnyToGo E) P PX K (n + 1) 2 [l0, l1, l2] r (σ, sz, k, c) = K 2 [l0, l1, l2] r (σ, sz, k, c)) ∧
  (∀ (n : Nat) (l0 l1 l2 : Option Value)  (r : List Value) (σ : zk_S) (sz k c : Nat), zk_run E (zk_VT E) M_X0_isAnyToGo (C_X0_isAnyToGo E) P PX K (n + 1) 3 [l0, l1, l2] r (σ, sz, k, c) = zk_run E (zk_VT E) M_X0_isAnyToGo (C_X0_isAnyToGo E) P PX K n 5 [l0, l1, l2] (.int (20) :: r) (σ, sz, k, c)) ∧
  (∀ (n : Nat) (l0 l1 l2 : Option Value) (x y : Int32) (r : List Value) (σ : zk_S) (sz k c : Nat), zk_run E (zk_VT E) M_X0_isAnyToGo (C_X0_isAnyToGo E) P PX K (n + 1) 5 [l0, l1, l2] (.int y :: .int x :: r) (σ, sz, k, c) = ((y ≤ x → zk_run E (zk_VT E) M_X0_isAnyToGo (C_X0_isAnyToGo E) P PX K n 35 [l0, l1, l2] r (σ, sz, k, c)) ∧ (¬ (y ≤ x) → zk_run E (zk_VT E) M_X0_isAnyToGo (C_X0_isAnyToGo E) P PX K n 8 [l0, l1, l2] r (σ, sz, k, c)))) ∧
  (∀ (n : Nat) (l0 l2 : Option Value) (y1 : Value) (r : List Value) (σ : zk_S) (sz k c : Nat), zk_run E (zk_VT E) M_X0_isAnyToGo (C_X0_isAnyToGo E) P PX K (n + 1) 8 [l0, some y1, l2] r (σ, sz, k, c) = (zk_isr y1 ∧ zk_run E (zk_VT E) M_X0_isAnyToGo (C_X0_isAnyToGo E) P PX K n 9 [l0, some y1, l2] (y1 :: r) (σ, sz, k, c))) ∧
  (∀ (n : Nat) (l0 l1 l2 : Option Value) (a : Nat) (r : List Value) (σ : zk_S) (sz k c : Nat), zk_run E (zk_VT E) M_X0_isAnyToGo (C_X0_isAnyToGo E) P PX K (n + 1) 9 [l0, l1, l2] (.ref a :: r) (σ, sz, k, c) = zk_fld (zk_view E σ a) [7] 6 (fun v => zk_run E (zk_VT E) M_X0_isAnyToGo (C_X0_isAnyToGo E) P PX K n 12 [l0, l1, l2] (v :: r) (σ, sz, k, c))) ∧
  (∀ (n : Nat) (l0 l1 : Option Value) (y2 : Int32) (r : List Value) (σ : zk_S) (sz k c : Nat), zk_run E (zk_VT E) M_X0_isAnyToGo (C_X0_isAnyToGo E) P PX K (n + 1) 12 [l0, l1, some (.int y2)] r (σ, sz, k, c) = zk_run E (zk_VT E) M_X0_isAnyToGo (C_X0_isAnyToGo E) P PX K n 13 [l0, l1, some (.int y2)] (.int y2 :: r) (σ, sz, k, c)) ∧
  (∀ (n : Nat) (l0 l1 l2 : Option Value) (a : Nat) (i : Int32) (r : List Value) (σ : zk_S) (sz k c : Nat), zk_run E (zk_VT E) M_X0_isAnyToGo (C_X0_isAnyToGo E) P PX K (n + 1) 13 [l0, l1, l2] (.int i :: .ref a :: r) (σ, sz, k, c) = zk_ild (zk_view E σ a) (zk_ar E 0) i (fun x => zk_run E (zk_VT E) M_X0_isAnyToGo (C_X0_isAnyToGo E) P PX K n 14 [l0, l1, l2] (.int x :: r) (σ, sz, k, c))) ∧
  (∀ (n : Nat) (l0 l1 l2 : Option Value)  (r : List Value) (σ : zk_S) (sz k c : Nat), zk_run E (zk_VT E) M_X0_isAnyToGo (C_X0_isAnyToGo E) P PX K (n + 1) 14 [l0, l1, l2] r (σ, sz, k, c) = zk_run E (zk_VT E) M_X0_isAnyToGo (C_X0_isAnyToGo E) P PX K n 15 [l0, l1, l2] (.int ((-1)) :: r) (σ, sz, k, c)) ∧
  (∀ (n : Nat) (l0 l1 l2 : Option Value) (x y : Int32) (r : List Value) (σ : zk_S) (sz k c : Nat), zk_run E (zk_VT E) M_X0_isAnyToGo (C_X0_isAnyToGo E) P PX K (n + 1) 15 [l0, l1, l2] (.int y :: .int x :: r) (σ, sz, k, c) = ((x = y → zk_run E (zk_VT E) M_X0_isAnyToGo (C_X0_isAnyToGo E) P PX K n 29 [l0, l1, l2] r (σ, sz, k, c)) ∧ (¬ (x = y) → zk_run E (zk_VT E) M_X0_isAnyToGo (C_X0_isAnyToGo E) P PX K n 18 [l0, l1, l2] r (σ, sz, k, c)))) ∧
  (∀ (n : Nat) (l1 l2 : Option Value) (y0 : Value) (r : List Value) (σ : zk_S) (sz k c : Nat), zk_run E (zk_VT E) M_X0_isAnyToGo (C_X0_isAnyToGo E) P PX K (n + 1) 18 [some y0, l1, l2] r (σ, sz, k, c) = (zk_isr y0 ∧ zk_run E (zk_VT E) M_X0_isAnyToGo (C_X0_isAnyToGo E) P PX K n 19 [some y0, l1, l2] (y0 :: r) (σ, sz, k, c))) ∧
  (∀ (n : Nat) (l0 l1 l2 : Option Value) (a : Nat) (r : List Value) (σ : zk_S) (sz k c : Nat), zk_run E (zk_VT E) M_X0_isAnyToGo (C_X0_isAnyToGo E) P PX K (n + 1) 19 [l0, l1, l2] (.ref a :: r) (σ, sz, k, c) = zk_fld (zk_view E σ a) [0] 0 (fun v => zk_run E (zk_VT E) M_X0_isAnyToGo (C_X0_isAnyToGo E) P PX K n 22 [l0, l1, l2] (v :: r) (σ, sz, k, c))) ∧
  (∀ (n : Nat) (l0 l1 : Option Value) (y2 : Int32) (r : List Value) (σ : zk_S) (sz k c : Nat), zk_run E (zk_VT E) M_X0_isAnyToGo (C_X0_isAnyToGo E) P PX K (n + 1) 22 [l0, l1, some (.int y2)] r (σ, sz, k, c) = zk_run E (zk_VT E) M_X0_isAnyToGo (C_X0_isAnyToGo E) P PX K n 23 [l0, l1, some (.int y2)] (.int y2 :: r) (σ, sz, k, c)) ∧
  (∀ (n : Nat) (l0 l1 l2 : Option Value) (a : Nat) (i : Int32) (r : List Value) (σ : zk_S) (sz k c : Nat), zk_run E (zk_VT E) M_X0_isAnyToGo (C_X0_isAnyToGo E) P PX K (n + 1) 23 [l0, l1, l2] (.int i :: .ref a :: r) (σ, sz, k, c) = zk_ild (zk_view E σ a) (zk_ar E 0) i (fun x => zk_run E (zk_VT E) M_X0_isAnyToGo (C_X0_isAnyToGo E) P PX K n 24 [l0, l1, l2] (.int x :: r) (σ, sz, k, c))) ∧
  (∀ (n : Nat) (l0 l1 l2 : Option Value) (x : Int32) (r : List Value) (σ : zk_S) (sz k c : Nat), zk_run E (zk_VT E) M_X0_isAnyToGo (C_X0_isAnyToGo E) P PX K (n + 1) 24 [l0, l1, l2] (.int x :: r) (σ, sz, k, c) = ((x ≤ 0 → zk_run E (zk_VT E) M_X0_isAnyToGo (C_X0_isAnyToGo E) P PX K n 29 [l0, l1, l2] r (σ, sz, k, c)) ∧ (¬ (x ≤ 0) → zk_run E (zk_VT E) M_X0_isAnyToGo (C_X0_isAnyToGo E) P PX K n 27 [l0, l1, l2] r (σ, sz, k, c)))) ∧
  (∀ (n : Nat) (l0 l1 l2 : Option Value)  (r : List Value) (σ : zk_S) (sz k c : Nat), zk_run E (zk_VT E) M_X0_isAnyToGo (C_X0_isAnyToGo E) P PX K (n + 1) 27 [l0, l1, l2] r (σ, sz, k, c) = zk_run E (zk_VT E) M_X0_isAnyToGo (C_X0_isAnyToGo E) P PX K n 28 [l0, l1, l2] (.int (1) :: r) (σ, sz, k, c)) ∧
  (∀ (n : Nat) (l0 l1 l2 : Option Value) (x : Int32)  (σ : zk_S) (sz k c : Nat), zk_run E (zk_VT E) M_X0_isAnyToGo (C_X0_isAnyToGo E) P PX K (n + 1) 28 [l0, l1, l2] [.int x] (σ, sz, k, c) = (zk_nok (some (.boolean)) x ∧ P (some (.int x)) σ sz ∧ k ≤ 0 ∧ c ≤ 0)) ∧
  (∀ (n : Nat) (l0 l1 : Option Value) (y2 : Int32) (r : List Value) (σ : zk_S) (sz k c : Nat), zk_run E (zk_VT E) M_X0_isAnyToGo (C_X0_isAnyToGo E) P PX K (n + 1) 29 [l0, l1, some (.int y2)] r (σ, sz, k, c) = zk_run E (zk_VT E) M_X0_isAnyToGo (C_X0_isAnyToGo E) P PX K n 32 [l0, zk_kl l1, some (.int (y2 + 1))] r (σ, sz, k, c)) ∧
  (∀ (n : Nat) (l0 l1 l2 : Option Value)  (r : List Value) (σ : zk_S) (sz k c : Nat), zk_run E (zk_VT E) M_X0_isAnyToGo (C_X0_isAnyToGo E) P PX K (n + 1) 32 [l0, l1, l2] r (σ, sz, k, c) = zk_run E (zk_VT E) M_X0_isAnyToGo (C_X0_isAnyToGo E) P PX K n 2 [l0, l1, l2] r (σ, sz, k, c)) ∧
  (∀ (n : Nat) (l0 l1 l2 : Option Value)  (r : List Value) (σ : zk_S) (sz k c : Nat), zk_run E (zk_VT E) M_X0_isAnyToGo (C_X0_isAnyToGo E) P PX K (n + 1) 35 [l0, l1, l2] r (σ, sz, k, c) = zk_run E (zk_VT E) M_X0_isAnyToGo (C_X0_isAnyToGo E) P PX K n 36 [l0, l1, l2] (.int (0) :: r) (σ, sz, k, c)) ∧
  (∀ (n : Nat) (l0 l1 l2 : Option Value) (x : Int32)  (σ : zk_S) (sz k c : Nat), zk_run E (zk_VT E) M_X0_isAnyToGo (C_X0_isAnyToGo E) P PX K (n + 1) 36 [l0, l1, l2] [.int x] (σ, sz, k, c) = (zk_nok (some (.boolean)) x ∧ P (some (.int x)) σ sz ∧ k ≤ 0 ∧ c ≤ 0)) ∧
  (∀ (n : Nat) (l0 l1 l2 : Option Value) (r : List Value) (w : zk_W zk_S), zk_go E (zk_VT E) M_X0_isAnyToGo (C_X0_isAnyToGo E) P PX K n 0 [l0, l1, l2] r w = zk_run E (zk_VT E) M_X0_isAnyToGo (C_X0_isAnyToGo E) P PX K (n + 1) 0 [l0, l1, l2] r w) ∧
  (∀ (n : Nat) (l0 l1 : Option Value) (y2 : Int32) (r : List Value) (σ : zk_S) (sz k c : Nat), zk_go E (zk_VT E) M_X0_isAnyToGo (C_X0_isAnyToGo E) P PX K n 2 [l0, l1, some (.int y2)] r (σ, sz, k, c) = zk_run E (zk_VT E) M_X0_isAnyToGo (C_X0_isAnyToGo E) P PX K n 3 [l0, l1, some (.int y2)] (.int y2 :: r) (σ, sz, k, c)) := ⟨by intros; rfl, by intros; rfl, by intros; rfl, by intros; rfl, by intros; rfl, by intros; rfl, by intros; rfl, by intros; rfl, by intros; rfl, by intros; rfl, by intros; rfl, by intros; rfl, by intros; rfl, by intros; rfl, by intros; rfl, by intros; rfl, by intros; rfl, by intros; rfl, by intros; rfl, by intros; rfl, by intros; rfl, by intros; rfl, by intros; rfl, by intros; rfl⟩
theorem vc_X0_isAnyToGo (E : zk_E) : zk_VC E (zk_VT E) M_X0_isAnyToGo (C_X0_isAnyToGo E) 3 (sp_X0_isAnyToGo E) := by
  intro av σ sz P PX h
  obtain ⟨J, N, Q, O, U⟩ := σ
  unfold sp_X0_isAnyToGo at h
  split at h
  case h_2 => exact h.elim
  rename_i a0 w
  obtain ⟨rfl, h⟩ := h
  refine ⟨Nat.le_of_ble_eq_true rfl, fun G hG => ?_⟩
  change G 0 [some (.ref (zk_ad E 15)), some (.ref w), none] [] ((J, N, Q, O, U), sz, 0, 0)
  try dsimp only at h
  obtain ⟨rfl, J1, N1, f, hmi, hwd, hwi, hf, h⟩ := h
  rw [← t_any_20 hmi] at h
  have loop : ∀ m k, k + m = 20 → t_any J1 N1 f k = false → G 2 [some (.ref (zk_ad E 15)), some (.ref (zk_ad E 7)), some (.int (nI k))] [] ((J, N, Q, O, U), sz, 0, 0) := by
    intro m
    induction m with
    | zero =>
      intro k hk hn
      have c1 : (20 : Int32) ≤ nI k := (nI_le (a := 20) (by omega) (by omega) : nI 20 ≤ nI k)
      have ek : k = 20 := by omega
      subst ek
      rw [hn] at h
      (refine hG 900 _ _ _ _ ?_; simp only [r_X0_isAnyToGo, zk_kl_none, zk_kl_int, zk_kl_ref, zk_kl_null, zk_kl_long, zk_kl_rf, zk_isr_ref, zk_isr_null, zk_isr_rf9, zk_c1_int, zk_c1_ref, zk_c1_null, zk_c1_rf, zk_psh_some, zk_psh_none, zk_nok_int, zk_nok_bool0, zk_nok_bool1, zk_nok_b, zk_fok_0, zk_fok_1, zk_fok_2, zk_fok_n, zk_fok_rf, zb_f, zb_p, zb_i, zb_a, zb_s, zk_nth_0, zk_nth_s, zk_fld_o, zk_put_o, zk_rv_eq, zk_ri_eq, zk_is_o, List.mem_cons, List.not_mem_nil, or_false, false_or, or_true, true_or, and_true, true_and, not_false_iff, not_true_eq_false, true_implies, false_implies, imp_self, implies_true, forall_const, zk_lit, zk_uj_ap, zk_un_ap, zk_un_un, zk_uj_uj, Nat.reduceEqDiff, eq_self, zk_bq, Bool.true_or, Bool.false_or, Nat.le_refl, Nat.zero_add, Nat.add_zero, Nat.reduceAdd, Nat.reduceLeDiff, Nat.le_zero_eq, and_self, and_false, false_and, ite_true, ite_false, Nat.zero_le, List.length_cons, List.length_nil, Option.some.injEq, forall_eq', reduceCtorEq, c1])
      exact h
    | succ m ih =>
      intro k hk hn
      have c1 : ¬ (20 : Int32) ≤ nI k := (nI_ge (b := 20) (by omega) (by decide) : ¬ nI 20 ≤ nI k)
      have hin : vp_in (nI k) 20 := n_in (by omega) (by decide)
      have hcl : (nI k).toNatClampNeg = k := n_cl (by omega)
      have h14 : N 14 k = g_deep J1 N1 k := hwd k (by omega)
      have h16 : N 16 k = nI (f k) := hwi k (by omega)
      have hfk := Nat.le_trans (sumN_le (f := f) (k := k) (n := 20) (by omega)) hf
      have ho := t_out_iff (k := k) hmi (by omega)
      have ih2 := fun w : (t_out J1 N1 k && decide (0 < f k)) = false => ih (k + 1) (by omega) (by rw [t_any, hn, w]; rfl)
      have mono : ∀ m, t_any J1 N1 f (k + 1) = true → t_any J1 N1 f (k + 1 + m) = true := fun m => by
        induction m with
        | zero => exact id
        | succ m ihm => intro z; rw [← Nat.add_assoc, t_any, ihm z]; rfl
      by_cases z1 : g_deep J1 N1 k = -1
      · have i3 := ih2 (by rw [ho, decide_eq_false (not_not_intro z1)]; rfl)
        (refine hG 900 _ _ _ _ ?_; simp only [r_X0_isAnyToGo, zk_kl_none, zk_kl_int, zk_kl_ref, zk_kl_null, zk_kl_long, zk_kl_rf, zk_isr_ref, zk_isr_null, zk_isr_rf9, zk_c1_int, zk_c1_ref, zk_c1_null, zk_c1_rf, zk_psh_some, zk_psh_none, zk_nok_int, zk_nok_bool0, zk_nok_bool1, zk_nok_b, zk_fok_0, zk_fok_1, zk_fok_2, zk_fok_n, zk_fok_rf, zb_f, zb_p, zb_i, zb_a, zb_s, zk_nth_0, zk_nth_s, zk_fld_o, zk_put_o, zk_rv_eq, zk_ri_eq, zk_is_o, List.mem_cons, List.not_mem_nil, or_false, false_or, or_true, true_or, and_true, true_and, not_false_iff, not_true_eq_false, true_implies, false_implies, imp_self, implies_true, forall_const, zk_lit, zk_uj_ap, zk_un_ap, zk_un_un, zk_uj_uj, Nat.reduceEqDiff, eq_self, zk_bq, Bool.true_or, Bool.false_or, Nat.le_refl, Nat.zero_add, Nat.add_zero, Nat.reduceAdd, Nat.reduceLeDiff, Nat.le_zero_eq, and_self, and_false, false_and, ite_true, ite_false, Nat.zero_le, List.length_cons, List.length_nil, Option.some.injEq, forall_eq', reduceCtorEq, c1, hin, hcl, h14, z1, n_succ])
        exact i3
      · by_cases z2 : f k = 0
        · have i3 := ih2 (by rw [decide_eq_false (by omega), Bool.and_false])
          have c4 : nI (f k) ≤ 0 := by rw [n_pos (by omega)]; exact z2
          (refine hG 900 _ _ _ _ ?_; simp only [r_X0_isAnyToGo, zk_kl_none, zk_kl_int, zk_kl_ref, zk_kl_null, zk_kl_long, zk_kl_rf, zk_isr_ref, zk_isr_null, zk_isr_rf9, zk_c1_int, zk_c1_ref, zk_c1_null, zk_c1_rf, zk_psh_some, zk_psh_none, zk_nok_int, zk_nok_bool0, zk_nok_bool1, zk_nok_b, zk_fok_0, zk_fok_1, zk_fok_2, zk_fok_n, zk_fok_rf, zb_f, zb_p, zb_i, zb_a, zb_s, zk_nth_0, zk_nth_s, zk_fld_o, zk_put_o, zk_rv_eq, zk_ri_eq, zk_is_o, List.mem_cons, List.not_mem_nil, or_false, false_or, or_true, true_or, and_true, true_and, not_false_iff, not_true_eq_false, true_implies, false_implies, imp_self, implies_true, forall_const, zk_lit, zk_uj_ap, zk_un_ap, zk_un_un, zk_uj_uj, Nat.reduceEqDiff, eq_self, zk_bq, Bool.true_or, Bool.false_or, Nat.le_refl, Nat.zero_add, Nat.add_zero, Nat.reduceAdd, Nat.reduceLeDiff, Nat.le_zero_eq, and_self, and_false, false_and, ite_true, ite_false, Nat.zero_le, List.length_cons, List.length_nil, Option.some.injEq, forall_eq', reduceCtorEq, c1, hin, hcl, h14, z1, h16, c4, n_succ])
          exact i3
        · have c4 : ¬ nI (f k) ≤ 0 := by rw [n_pos (by omega)]; exact z2
          have t := mono m (by rw [t_any, ho, decide_eq_true z1, decide_eq_true (show 0 < f k by omega)]; simp)
          rw [show k + 1 + m = 20 by omega] at t
          rw [t] at h
          (refine hG 900 _ _ _ _ ?_; simp only [r_X0_isAnyToGo, zk_kl_none, zk_kl_int, zk_kl_ref, zk_kl_null, zk_kl_long, zk_kl_rf, zk_isr_ref, zk_isr_null, zk_isr_rf9, zk_c1_int, zk_c1_ref, zk_c1_null, zk_c1_rf, zk_psh_some, zk_psh_none, zk_nok_int, zk_nok_bool0, zk_nok_bool1, zk_nok_b, zk_fok_0, zk_fok_1, zk_fok_2, zk_fok_n, zk_fok_rf, zb_f, zb_p, zb_i, zb_a, zb_s, zk_nth_0, zk_nth_s, zk_fld_o, zk_put_o, zk_rv_eq, zk_ri_eq, zk_is_o, List.mem_cons, List.not_mem_nil, or_false, false_or, or_true, true_or, and_true, true_and, not_false_iff, not_true_eq_false, true_implies, false_implies, imp_self, implies_true, forall_const, zk_lit, zk_uj_ap, zk_un_ap, zk_un_un, zk_uj_uj, Nat.reduceEqDiff, eq_self, zk_bq, Bool.true_or, Bool.false_or, Nat.le_refl, Nat.zero_add, Nat.add_zero, Nat.reduceAdd, Nat.reduceLeDiff, Nat.le_zero_eq, and_self, and_false, false_and, ite_true, ite_false, Nat.zero_le, List.length_cons, List.length_nil, Option.some.injEq, forall_eq', reduceCtorEq, c1, hin, hcl, h14, z1, h16, c4])
          exact h
  have l0 := loop 20 0 (by omega) rfl
  (refine hG 900 _ _ _ _ ?_; simp only [r_X0_isAnyToGo, zk_kl_none, zk_kl_int, zk_kl_ref, zk_kl_null, zk_kl_long, zk_kl_rf, zk_isr_ref, zk_isr_null, zk_isr_rf9, zk_c1_int, zk_c1_ref, zk_c1_null, zk_c1_rf, zk_psh_some, zk_psh_none, zk_nok_int, zk_nok_bool0, zk_nok_bool1, zk_nok_b, zk_fok_0, zk_fok_1, zk_fok_2, zk_fok_n, zk_fok_rf, zb_f, zb_p, zb_i, zb_a, zb_s, zk_nth_0, zk_nth_s, zk_fld_o, zk_put_o, zk_rv_eq, zk_ri_eq, zk_is_o, List.mem_cons, List.not_mem_nil, or_false, false_or, or_true, true_or, and_true, true_and, not_false_iff, not_true_eq_false, true_implies, false_implies, imp_self, implies_true, forall_const, zk_lit, zk_uj_ap, zk_un_ap, zk_un_un, zk_uj_uj, Nat.reduceEqDiff, eq_self, zk_bq, Bool.true_or, Bool.false_or, Nat.le_refl, Nat.zero_add, Nat.add_zero, Nat.reduceAdd, Nat.reduceLeDiff, Nat.le_zero_eq, and_self, and_false, false_and, ite_true, ite_false, Nat.zero_le, List.length_cons, List.length_nil, Option.some.injEq, forall_eq', reduceCtorEq])
  exact l0
theorem ct_X0_isAnyToGo {l : Launch} (hl : l.stackTraces = false) (E : zk_E) : zk_C l E (zk_VT E) yX0_isAnyToGo cX0_isAnyToGo 3 (some (.boolean)) rm_X0_isAnyToGo (sp_X0_isAnyToGo E) := by
  refine zk_meth (M := M_X0_isAnyToGo) (C := C_X0_isAnyToGo E) hl (by decide +kernel) rfl (fun _ _ => rfl) (zk_VT_ok E) MO_X0_isAnyToGo TO_X0_isAnyToGo THo_X0_isAnyToGo ?_ (vc_X0_isAnyToGo E)
  exact fun p e s m args below meth c X pc n mc ms sp2 h => absurd (zk_lka_mem h) List.not_mem_nil
def x_go (J N : Nat → Nat → Int32) (Q : Nat → Nat → Option Nat) (k : Nat) : Option Nat := if t_out J N k = true then xat Q (lea J N k / 2) else none
def sp_X0_exitToGo (E : zk_E) : zk_Sp zk_S := fun av σ sz P PX => match av with
  | [.ref p, .ref w, .int i] => p = zk_ad E 1 ∧ w = zk_ad E 7 ∧ ∃ J N k, MI J N ∧ WLv J N σ.2.1 ∧ WDp J N σ.2.1 ∧ k < 20 ∧ i = nI k ∧ P (some (va_rf (x_go J N σ.2.2.1 k))) σ sz
  | _ => False
theorem spe_X0_exitToGo (E : zk_E) (p : Nat) (w : Nat) (i : Int32) (σ : zk_S) (sz : Nat) (P : zk_P zk_S) (PX : zk_X zk_S) : sp_X0_exitToGo E [.ref p, .ref w, .int i] σ sz P PX = (p = zk_ad E 1 ∧ w = zk_ad E 7 ∧ ∃ J N k, MI J N ∧ WLv J N σ.2.1 ∧ WDp J N σ.2.1 ∧ k < 20 ∧ i = nI k ∧ P (some (va_rf (x_go J N σ.2.2.1 k))) σ sz) := propext Iff.rfl
def C_X0_exitToGo (E : zk_E) : zk_Cl zk_S := zk_lka [(21, 2, 0, 0, zk_rv (zk_VT E) (fun ci => Nat.beq ci 4) (sp_X5_exitAt E))]
theorem r_X0_exitToGo (E : zk_E) (P : zk_P zk_S) (PX : zk_X zk_S) (K : Nat → zk_L → List Value → zk_W zk_S → Prop) : (∀ (n : Nat) (l0 l2 : Option Value) (y1 : Value) (r : List Value) (σ : zk_S) (sz k c : Nat), zk_run E (zk_VT E) M_X0_exitToGo (C_X0_exitToGo E) P PX K (n + 1) 0 [l0, some y1, l2] r (σ, sz, k, c) = (zk_isr y1 ∧ zk_run E (zk_VT E) M_X0_exitToGo (C_X0_exitToGo E) P PX K n 1 [l0, some y1, l2] (y1 :: r) (σ, sz, k, c))) ∧
  (∀ (n : Nat) (l0 l1 l2 : Option Value) (a : Nat) (r : List Value) (σ : zk_S) (sz k c : Nat), zk_run E (zk_VT E) M_X0_exitToGo (C_X0_exitToGo E) P PX K (n + 1) 1 [l0, l1, l2] (.ref a :: r) (σ, sz, k, c) = zk_fld (zk_view E σ a) [7] 6 (fun v => zk_run E (zk_VT E) M_X0_exitToGo (C_X0_exitToGo E) P PX K n 4 [l0, l1, l2] (v :: r) (σ, sz, k, c))) ∧
  (∀ (n : Nat) (l0 l1 : Option Value) (y2 : Int32) (r : List Value) (σ : zk_S) (sz k c : Nat), zk_run E (zk_VT E) M_X0_exitToGo (C_X0_exitToGo E) P PX K (n + 1) 4 [l0, l1, some (.int y2)] r (σ, sz, k, c) = zk_run E (zk_VT E) M_X0_exitToGo (C_X0_exitToGo E) P PX K n 5 [l0, l1, some (.int y2)] (.int y2 :: r) (σ, sz, k, c)) ∧
  (∀ (n : Nat) (l0 l1 l2 : Option Value) (a : Nat) (i : Int32) (r : List Value) (σ : zk_S) (sz k c : Nat), zk_run E (zk_VT E) M_X0_exitToGo (C_X0_exitToGo E) P PX K (n + 1) 5 [l0, l1, l2] (.int i :: .ref a :: r) (σ, sz, k, c) = zk_ild (zk_view E σ a) (zk_ar E 0) i (fun x => zk_run E (zk_VT E) M_X0_exitToGo (C_X0_exitToGo E) P PX K n 6 [l0, l1, l2] (.int x :: r) (σ, sz, k, c))) ∧
  (∀ (n : Nat) (l0 l1 l2 : Option Value)  (r : List Value) (σ : zk_S) (sz k c : Nat), zk_run E (zk_VT E) M_X0_exitToGo (C_X0_exitToGo E) P PX K (n + 1) 6 [l0, l1, l2] r (σ, sz, k, c) = zk_run E (zk_VT E) M_X0_exitToGo (C_X0_exitToGo E) P PX K n 7 [l0, l1, l2] (.int ((-1)) :: r) (σ, sz, k, c)) ∧
  (∀ (n : Nat) (l0 l1 l2 : Option Value) (x y : Int32) (r : List Value) (σ : zk_S) (sz k c : Nat), zk_run E (zk_VT E) M_X0_exitToGo (C_X0_exitToGo E) P PX K (n + 1) 7 [l0, l1, l2] (.int y :: .int x :: r) (σ, sz, k, c) = ((¬ x = y → zk_run E (zk_VT E) M_X0_exitToGo (C_X0_exitToGo E) P PX K n 14 [l0, l1, l2] r (σ, sz, k, c)) ∧ (¬ (¬ x = y) → zk_run E (zk_VT E) M_X0_exitToGo (C_X0_exitToGo E) P PX K n 10 [l0, l1, l2] r (σ, sz, k, c)))) ∧
  (∀ (n : Nat) (l0 l1 l2 : Option Value)  (r : List Value) (σ : zk_S) (sz k c : Nat), zk_run E (zk_VT E) M_X0_exitToGo (C_X0_exitToGo E) P PX K (n + 1) 10 [l0, l1, l2] r (σ, sz, k, c) = zk_run E (zk_VT E) M_X0_exitToGo (C_X0_exitToGo E) P PX K n 11 [l0, l1, l2] (.null :: r) (σ, sz, k, c)) ∧
  (∀ (n : Nat) (l0 l1 l2 : Option Value)  (r : List Value) (σ : zk_S) (sz k c : Nat), zk_run E (zk_VT E) M_X0_exitToGo (C_X0_exitToGo E) P PX K (n + 1) 11 [l0, l1, l2] r (σ, sz, k, c) = zk_run E (zk_VT E) M_X0_exitToGo (C_X0_exitToGo E) P PX K n 24 [l0, l1, l2] r (σ, sz, k, c)) ∧
  (∀ (n : Nat) (l1 l2 : Option Value) (y0 : Value) (r : List Value) (σ : zk_S) (sz k c : Nat), zk_run E (zk_VT E) M_X0_exitToGo (C_X0_exitToGo E) P PX K (n + 1) 14 [some y0, l1, l2] r (σ, sz, k, c) = (zk_isr y0 ∧ zk_run E (zk_VT E) M_X0_exitToGo (C_X0_exitToGo E) P PX K n 15 [some y0, l1, l2] (y0 :: r) (σ, sz, k, c))) ∧
  (∀ (n : Nat) (l0 l2 : Option Value) (y1 : Value) (r : List Value) (σ : zk_S) (sz k c : Nat), zk_run E (zk_VT E) M_X0_exitToGo (C_X0_exitToGo E) P PX K (n + 1) 15 [l0, some y1, l2] r (σ, sz, k, c) = (zk_isr y1 ∧ zk_run E (zk_VT E) M_X0_exitToGo (C_X0_exitToGo E) P PX K n 16 [l0, some y1, l2] (y1 :: r) (σ, sz, k, c))) ∧
  (∀ (n : Nat) (l0 l1 l2 : Option Value) (a : Nat) (r : List Value) (σ : zk_S) (sz k c : Nat), zk_run E (zk_VT E) M_X0_exitToGo (C_X0_exitToGo E) P PX K (n + 1) 16 [l0, l1, l2] (.ref a :: r) (σ, sz, k, c) = zk_fld (zk_view E σ a) [7] 3 (fun v => zk_run E (zk_VT E) M_X0_exitToGo (C_X0_exitToGo E) P PX K n 19 [l0, l1, l2] (v :: r) (σ, sz, k, c))) ∧
  (∀ (n : Nat) (l0 l1 : Option Value) (y2 : Int32) (r : List Value) (σ : zk_S) (sz k c : Nat), zk_run E (zk_VT E) M_X0_exitToGo (C_X0_exitToGo E) P PX K (n + 1) 19 [l0, l1, some (.int y2)] r (σ, sz, k, c) = zk_run E (zk_VT E) M_X0_exitToGo (C_X0_exitToGo E) P PX K n 20 [l0, l1, some (.int y2)] (.int y2 :: r) (σ, sz, k, c)) ∧
  (∀ (n : Nat) (l0 l1 l2 : Option Value) (a : Nat) (i : Int32) (r : List Value) (σ : zk_S) (sz k c : Nat), zk_run E (zk_VT E) M_X0_exitToGo (C_X0_exitToGo E) P PX K (n + 1) 20 [l0, l1, l2] (.int i :: .ref a :: r) (σ, sz, k, c) = zk_ild (zk_view E σ a) (zk_ar E 0) i (fun x => zk_run E (zk_VT E) M_X0_exitToGo (C_X0_exitToGo E) P PX K n 21 [l0, l1, l2] (.int x :: r) (σ, sz, k, c))) ∧
  (∀ (n : Nat) (l0 l1 l2 : Option Value) (v0 : Value) (v1 : Value)  (σ : zk_S) (sz k c : Nat), zk_run E (zk_VT E) M_X0_exitToGo (C_X0_exitToGo E) P PX K (n + 1) 21 [l0, l1, l2] [v0, v1] (σ, sz, k, c) = (k + 0 ≤ 0 ∧ c + 0 ≤ 0 ∧ (zk_rv (zk_VT E) (fun ci => Nat.beq ci 4) (sp_X5_exitAt E)) [v1, v0] σ sz (fun v s2 z2 => zk_run E (zk_VT E) M_X0_exitToGo (C_X0_exitToGo E) P PX K n 24 [l0, l1, l2] (zk_psh v []) (s2, z2, k + 0, c + 0)) (fun X s2 z2 => PX X s2 z2))) ∧
  (∀ (n : Nat) (l0 l1 l2 : Option Value) (x : Value)  (σ : zk_S) (sz k c : Nat), zk_run E (zk_VT E) M_X0_exitToGo (C_X0_exitToGo E) P PX K (n + 1) 24 [l0, l1, l2] [x] (σ, sz, k, c) = (zk_isr x ∧ P (some (x)) σ sz ∧ k ≤ 0 ∧ c ≤ 0)) ∧
  (∀ (n : Nat) (l0 l1 l2 : Option Value) (r : List Value) (w : zk_W zk_S), zk_go E (zk_VT E) M_X0_exitToGo (C_X0_exitToGo E) P PX K n 0 [l0, l1, l2] r w = zk_run E (zk_VT E) M_X0_exitToGo (C_X0_exitToGo E) P PX K (n + 1) 0 [l0, l1, l2] r w) := ⟨by intros; rfl, by intros; rfl, by intros; rfl, by intros; rfl, by intros; rfl, by intros; rfl, by intros; rfl, by intros; rfl, by intros; rfl, by intros; rfl, by intros; rfl, by intros; rfl, by intros; rfl, by intros; rfl, by intros; rfl, by intros; rfl⟩
theorem vc_X0_exitToGo (E : zk_E) : zk_VC E (zk_VT E) M_X0_exitToGo (C_X0_exitToGo E) 3 (sp_X0_exitToGo E) := by
  intro av σ sz P PX h
  obtain ⟨J, N, Q, O, U⟩ := σ
  unfold sp_X0_exitToGo at h
  split at h
  case h_2 => exact h.elim
  rename_i p w i
  refine ⟨Nat.le_of_ble_eq_true rfl, fun G hG => ?_⟩
  change G 0 [some (.ref p), some (.ref w), some (.int i)] [] ((J, N, Q, O, U), sz, 0, 0)
  try dsimp only at h
  obtain ⟨rfl, rfl, J1, N1, k, hmi, hwl, hwd, hk, rfl, h⟩ := h
  have hin : vp_in (nI k) 20 := n_in hk (by decide)
  have hcl : (nI k).toNatClampNeg = k := n_cl (by omega)
  have h14 : N 14 k = g_deep J1 N1 k := hwd k hk
  have h11 : N 11 k = bex (lea J1 N1 k) := hwl k hk
  have ho := t_out_iff (k := k) hmi hk
  unfold x_go at h
  by_cases z1 : g_deep J1 N1 k = -1
  · rw [if_neg (by rw [ho, decide_eq_false (not_not_intro z1)]; decide)] at h
    (refine hG 900 _ _ _ _ ?_; simp only [r_X0_exitToGo, zk_kl_none, zk_kl_int, zk_kl_ref, zk_kl_null, zk_kl_long, zk_kl_rf, zk_isr_ref, zk_isr_null, zk_isr_rf9, zk_c1_int, zk_c1_ref, zk_c1_null, zk_c1_rf, zk_psh_some, zk_psh_none, zk_nok_int, zk_nok_bool0, zk_nok_bool1, zk_nok_b, zk_fok_0, zk_fok_1, zk_fok_2, zk_fok_n, zk_fok_rf, zb_f, zb_p, zb_i, zb_a, zb_s, zk_nth_0, zk_nth_s, zk_fld_o, zk_put_o, zk_rv_eq, zk_ri_eq, zk_is_o, List.mem_cons, List.not_mem_nil, or_false, false_or, or_true, true_or, and_true, true_and, not_false_iff, not_true_eq_false, true_implies, false_implies, imp_self, implies_true, forall_const, zk_lit, zk_uj_ap, zk_un_ap, zk_un_un, zk_uj_uj, Nat.reduceEqDiff, eq_self, zk_bq, Bool.true_or, Bool.false_or, Nat.le_refl, Nat.zero_add, Nat.add_zero, Nat.reduceAdd, Nat.reduceLeDiff, Nat.le_zero_eq, and_self, and_false, false_and, ite_true, ite_false, Nat.zero_le, List.length_cons, List.length_nil, Option.some.injEq, forall_eq', reduceCtorEq, hin, hcl, h14, z1])
    exact h
  · have ht : t_out J1 N1 k = true := by rw [ho, decide_eq_true z1]
    have hl := t_out_lea hk ht
    have he := lea_act hl
    have he := (m_act_mem.mp he.1).1
    rw [if_pos ht] at h
    have h11b : N 11 k = nI (lea J1 N1 k / 2) := by rw [h11]; unfold bex; rw [if_neg hl]
    have c3 := n_isIn49 (i := lea J1 N1 k / 2) (by omega)
    have hcl2 : (nI (lea J1 N1 k / 2)).toNatClampNeg = lea J1 N1 k / 2 := n_cl (by omega)
    cases hq : xat Q (lea J1 N1 k / 2) with
    | none =>
      rw [hq] at h
      (refine hG 900 _ _ _ _ ?_; simp only [r_X0_exitToGo, zk_kl_none, zk_kl_int, zk_kl_ref, zk_kl_null, zk_kl_long, zk_kl_rf, zk_isr_ref, zk_isr_null, zk_isr_rf9, zk_c1_int, zk_c1_ref, zk_c1_null, zk_c1_rf, zk_psh_some, zk_psh_none, zk_nok_int, zk_nok_bool0, zk_nok_bool1, zk_nok_b, zk_fok_0, zk_fok_1, zk_fok_2, zk_fok_n, zk_fok_rf, zb_f, zb_p, zb_i, zb_a, zb_s, zk_nth_0, zk_nth_s, zk_fld_o, zk_put_o, zk_rv_eq, zk_ri_eq, zk_is_o, List.mem_cons, List.not_mem_nil, or_false, false_or, or_true, true_or, and_true, true_and, not_false_iff, not_true_eq_false, true_implies, false_implies, imp_self, implies_true, forall_const, zk_lit, zk_uj_ap, zk_un_ap, zk_un_un, zk_uj_uj, Nat.reduceEqDiff, eq_self, zk_bq, Bool.true_or, Bool.false_or, Nat.le_refl, Nat.zero_add, Nat.add_zero, Nat.reduceAdd, Nat.reduceLeDiff, Nat.le_zero_eq, and_self, and_false, false_and, ite_true, ite_false, Nat.zero_le, List.length_cons, List.length_nil, Option.some.injEq, forall_eq', reduceCtorEq, hin, hcl, h14, z1, h11b, spe_X5_exitAt, c3, hcl2, hq, va_rf_n, Bool.true_eq_false])
      exact h
    | some c =>
      rw [hq] at h
      (refine hG 900 _ _ _ _ ?_; simp only [r_X0_exitToGo, zk_kl_none, zk_kl_int, zk_kl_ref, zk_kl_null, zk_kl_long, zk_kl_rf, zk_isr_ref, zk_isr_null, zk_isr_rf9, zk_c1_int, zk_c1_ref, zk_c1_null, zk_c1_rf, zk_psh_some, zk_psh_none, zk_nok_int, zk_nok_bool0, zk_nok_bool1, zk_nok_b, zk_fok_0, zk_fok_1, zk_fok_2, zk_fok_n, zk_fok_rf, zb_f, zb_p, zb_i, zb_a, zb_s, zk_nth_0, zk_nth_s, zk_fld_o, zk_put_o, zk_rv_eq, zk_ri_eq, zk_is_o, List.mem_cons, List.not_mem_nil, or_false, false_or, or_true, true_or, and_true, true_and, not_false_iff, not_true_eq_false, true_implies, false_implies, imp_self, implies_true, forall_const, zk_lit, zk_uj_ap, zk_un_ap, zk_un_un, zk_uj_uj, Nat.reduceEqDiff, eq_self, zk_bq, Bool.true_or, Bool.false_or, Nat.le_refl, Nat.zero_add, Nat.add_zero, Nat.reduceAdd, Nat.reduceLeDiff, Nat.le_zero_eq, and_self, and_false, false_and, ite_true, ite_false, Nat.zero_le, List.length_cons, List.length_nil, Option.some.injEq, forall_eq', reduceCtorEq, hin, hcl, h14, z1, h11b, spe_X5_exitAt, c3, hcl2, hq, va_rf_s, Bool.true_eq_false])
      exact h
theorem ct_X0_exitToGo {l : Launch} (hl : l.stackTraces = false) (E : zk_E) : zk_C l E (zk_VT E) yX0_exitToGo cX0_exitToGo 3 (some ((.object "ClerestoryPlan$Exit"))) rm_X0_exitToGo (sp_X0_exitToGo E) := by
  refine zk_meth (M := M_X0_exitToGo) (C := C_X0_exitToGo E) hl (by decide +kernel) rfl (fun _ _ => rfl) (zk_VT_ok E) MO_X0_exitToGo TO_X0_exitToGo THo_X0_exitToGo ?_ (vc_X0_exitToGo E)
  exact fun p e s m args below meth c X pc n mc ms sp2 h => by
    have h2 := zk_lka_mem h
    simp only [List.mem_cons, List.not_mem_nil, or_false, Prod.mk.injEq] at h2
    rcases h2 with ⟨rfl, rfl, rfl, rfl, rfl⟩
    exact zk_coV (idx := 73) X (ct_X5_exitAt hl E) (List.forall_mem_cons.mpr ⟨zk_wi 277 (by decide +kernel) rfl, List.forall_mem_cons.mpr ⟨zk_wi 119 (by decide +kernel) rfl, List.forall_mem_cons.mpr ⟨zk_wi 120 (by decide +kernel) rfl, List.forall_mem_cons.mpr ⟨zk_wi 3 (by decide +kernel) rfl, List.forall_mem_cons.mpr ⟨zk_wi 121 (by decide +kernel) rfl, fun _ h => absurd h List.not_mem_nil⟩⟩⟩⟩⟩) (fun ci h => by
      have h := Nat.eq_of_beq_eq_true h
      subst h
      exact ⟨_, _, rfl⟩) (by decide +kernel) ⟨by decide, by decide, by decide +kernel⟩ ⟨by decide, by decide⟩
def sp_X0_countInside (E : zk_E) : zk_Sp zk_S := fun av σ sz P PX => match av with
  | [.ref a] => a = zk_ad E 15 ∧ ∃ f, WI σ.2.1 f ∧ P (some (.int (nI (sumN f 20)))) σ sz
  | _ => False
theorem spe_X0_countInside (E : zk_E) (a : Nat) (σ : zk_S) (sz : Nat) (P : zk_P zk_S) (PX : zk_X zk_S) : sp_X0_countInside E [.ref a] σ sz P PX = (a = zk_ad E 15 ∧ ∃ f, WI σ.2.1 f ∧ P (some (.int (nI (sumN f 20)))) σ sz) := propext Iff.rfl
def C_X0_countInside (E : zk_E) : zk_Cl zk_S := zk_lka []
theorem r_X0_countInside (E : zk_E) (P : zk_P zk_S) (PX : zk_X zk_S) (K : Nat → zk_L → List Value → zk_W zk_S → Prop) : (∀ (n : Nat) (l0 l1 l2 : Option Value)  (r : List Value) (σ : zk_S) (sz k c : Nat), zk_run E (zk_VT E) M_X0_countInside (C_X0_countInside E) P PX K (n + 1) 0 [l0, l1, l2] r (σ, sz, k, c) = zk_run E (zk_VT E) M_X0_countInside (C_X0_countInside E) P PX K n 1 [l0, l1, l2] (.int (0) :: r) (σ, sz, k, c)) ∧
  (∀ (n : Nat) (l0 l1 l2 : Option Value) (x : Int32) (r : List Value) (σ : zk_S) (sz k c : Nat), zk_run E (zk_VT E) M_X0_countInside (C_X0_countInside E) P PX K (n + 1) 1 [l0, l1, l2] (.int x :: r) (σ, sz, k, c) = zk_run E (zk_VT E) M_X0_countInside (C_X0_countInside E) P PX K n 2 [zk_kl l0, some (.int x), l2] r (σ, sz, k, c)) ∧
  (∀ (n : Nat) (l0 l1 l2 : Option Value)  (r : List Value) (σ : zk_S) (sz k c : Nat), zk_run E (zk_VT E) M_X0_countInside (C_X0_countInside E) P PX K (n + 1) 2 [l0, l1, l2] r (σ, sz, k, c) = zk_run E (zk_VT E) M_X0_countInside (C_X0_countInside E) P PX K n 3 [l0, l1, l2] (.int (0) :: r) (σ, sz, k, c)) ∧
  (∀ (n : Nat) (l0 l1 l2 : Option Value) (x : Int32) (r : List Value) (σ : zk_S) (sz k c : Nat), zk_run E (zk_VT E) M_X0_countInside (C_X0_countInside E) P PX K (n + 1) 3 [l0, l1, l2] (.int x :: r) (σ, sz, k, c) = zk_run E (zk_VT E) M_X0_countInside (C_X0_countInside E) P PX K n 4 [l0, zk_kl l1, some (.int x)] r (σ, sz, k, c)) ∧
  (∀ (n : Nat) (l0 l1 l2 : Option Value)  (r : List Value) (σ : zk_S) (sz k c : Nat), zk_run E (zk_VT E) M_X0_countInside (C_X0_countInside E) P PX K (n + 1) 4 [l0, l1, l2] r (σ, sz, k, c) = K 4 [l0, l1, l2] r (σ, sz, k, c)) ∧
  (∀ (n : Nat) (l0 l1 l2 : Option Value)  (r : List Value) (σ : zk_S) (sz k c : Nat), zk_run E (zk_VT E) M_X0_countInside (C_X0_countInside E) P PX K (n + 1) 5 [l0, l1, l2] r (σ, sz, k, c) = zk_run E (zk_VT E) M_X0_countInside (C_X0_countInside E) P PX K n 7 [l0, l1, l2] (.int (20) :: r) (σ, sz, k, c)) ∧
  (∀ (n : Nat) (l0 l1 l2 : Option Value) (x y : Int32) (r : List Value) (σ : zk_S) (sz k c : Nat), zk_run E (zk_VT E) M_X0_countInside (C_X0_countInside E) P PX K (n + 1) 7 [l0, l1, l2] (.int y :: .int x :: r) (σ, sz, k, c) = ((y ≤ x → zk_run E (zk_VT E) M_X0_countInside (C_X0_countInside E) P PX K n 25 [l0, l1, l2] r (σ, sz, k, c)) ∧ (¬ (y ≤ x) → zk_run E (zk_VT E) M_X0_countInside (C_X0_countInside E) P PX K n 10 [l0, l1, l2] r (σ, sz, k, c)))) ∧
  (∀ (n : Nat) (l0 l2 : Option Value) (y1 : Int32) (r : List Value) (σ : zk_S) (sz k c : Nat), zk_run E (zk_VT E) M_X0_countInside (C_X0_countInside E) P PX K (n + 1) 10 [l0, some (.int y1), l2] r (σ, sz, k, c) = zk_run E (zk_VT E) M_X0_countInside (C_X0_countInside E) P PX K n 11 [l0, some (.int y1), l2] (.int y1 :: r) (σ, sz, k, c)) ∧
  (∀ (n : Nat) (l1 l2 : Option Value) (y0 : Value) (r : List Value) (σ : zk_S) (sz k c : Nat), zk_run E (zk_VT E) M_X0_countInside (C_X0_countInside E) P PX K (n + 1) 11 [some y0, l1, l2] r (σ, sz, k, c) = (zk_isr y0 ∧ zk_run E (zk_VT E) M_X0_countInside (C_X0_countInside E) P PX K n 12 [some y0, l1, l2] (y0 :: r) (σ, sz, k, c))) ∧
  (∀ (n : Nat) (l0 l1 l2 : Option Value) (a : Nat) (r : List Value) (σ : zk_S) (sz k c : Nat), zk_run E (zk_VT E) M_X0_countInside (C_X0_countInside E) P PX K (n + 1) 12 [l0, l1, l2] (.ref a :: r) (σ, sz, k, c) = zk_fld (zk_view E σ a) [0] 0 (fun v => zk_run E (zk_VT E) M_X0_countInside (C_X0_countInside E) P PX K n 15 [l0, l1, l2] (v :: r) (σ, sz, k, c))) ∧
  (∀ (n : Nat) (l0 l1 : Option Value) (y2 : Int32) (r : List Value) (σ : zk_S) (sz k c : Nat), zk_run E (zk_VT E) M_X0_countInside (C_X0_countInside E) P PX K (n + 1) 15 [l0, l1, some (.int y2)] r (σ, sz, k, c) = zk_run E (zk_VT E) M_X0_countInside (C_X0_countInside E) P PX K n 16 [l0, l1, some (.int y2)] (.int y2 :: r) (σ, sz, k, c)) ∧
  (∀ (n : Nat) (l0 l1 l2 : Option Value) (a : Nat) (i : Int32) (r : List Value) (σ : zk_S) (sz k c : Nat), zk_run E (zk_VT E) M_X0_countInside (C_X0_countInside E) P PX K (n + 1) 16 [l0, l1, l2] (.int i :: .ref a :: r) (σ, sz, k, c) = zk_ild (zk_view E σ a) (zk_ar E 0) i (fun x => zk_run E (zk_VT E) M_X0_countInside (C_X0_countInside E) P PX K n 17 [l0, l1, l2] (.int x :: r) (σ, sz, k, c))) ∧
  (∀ (n : Nat) (l0 l1 l2 : Option Value) (x y : Int32) (r : List Value) (σ : zk_S) (sz k c : Nat), zk_run E (zk_VT E) M_X0_countInside (C_X0_countInside E) P PX K (n + 1) 17 [l0, l1, l2] (.int y :: .int x :: r) (σ, sz, k, c) = zk_run E (zk_VT E) M_X0_countInside (C_X0_countInside E) P PX K n 18 [l0, l1, l2] (.int (x + y) :: r) (σ, sz, k, c)) ∧
  (∀ (n : Nat) (l0 l1 l2 : Option Value) (x : Int32) (r : List Value) (σ : zk_S) (sz k c : Nat), zk_run E (zk_VT E) M_X0_countInside (C_X0_countInside E) P PX K (n + 1) 18 [l0, l1, l2] (.int x :: r) (σ, sz, k, c) = zk_run E (zk_VT E) M_X0_countInside (C_X0_countInside E) P PX K n 19 [zk_kl l0, some (.int x), l2] r (σ, sz, k, c)) ∧
  (∀ (n : Nat) (l0 l1 : Option Value) (y2 : Int32) (r : List Value) (σ : zk_S) (sz k c : Nat), zk_run E (zk_VT E) M_X0_countInside (C_X0_countInside E) P PX K (n + 1) 19 [l0, l1, some (.int y2)] r (σ, sz, k, c) = zk_run E (zk_VT E) M_X0_countInside (C_X0_countInside E) P PX K n 22 [l0, zk_kl l1, some (.int (y2 + 1))] r (σ, sz, k, c)) ∧
  (∀ (n : Nat) (l0 l1 l2 : Option Value)  (r : List Value) (σ : zk_S) (sz k c : Nat), zk_run E (zk_VT E) M_X0_countInside (C_X0_countInside E) P PX K (n + 1) 22 [l0, l1, l2] r (σ, sz, k, c) = zk_run E (zk_VT E) M_X0_countInside (C_X0_countInside E) P PX K n 4 [l0, l1, l2] r (σ, sz, k, c)) ∧
  (∀ (n : Nat) (l0 l2 : Option Value) (y1 : Int32) (r : List Value) (σ : zk_S) (sz k c : Nat), zk_run E (zk_VT E) M_X0_countInside (C_X0_countInside E) P PX K (n + 1) 25 [l0, some (.int y1), l2] r (σ, sz, k, c) = zk_run E (zk_VT E) M_X0_countInside (C_X0_countInside E) P PX K n 26 [l0, some (.int y1), l2] (.int y1 :: r) (σ, sz, k, c)) ∧
  (∀ (n : Nat) (l0 l1 l2 : Option Value) (x : Int32)  (σ : zk_S) (sz k c : Nat), zk_run E (zk_VT E) M_X0_countInside (C_X0_countInside E) P PX K (n + 1) 26 [l0, l1, l2] [.int x] (σ, sz, k, c) = (zk_nok (some (.int)) x ∧ P (some (.int x)) σ sz ∧ k ≤ 0 ∧ c ≤ 0)) ∧
  (∀ (n : Nat) (l0 l1 l2 : Option Value) (r : List Value) (w : zk_W zk_S), zk_go E (zk_VT E) M_X0_countInside (C_X0_countInside E) P PX K n 0 [l0, l1, l2] r w = zk_run E (zk_VT E) M_X0_countInside (C_X0_countInside E) P PX K (n + 1) 0 [l0, l1, l2] r w) ∧
  (∀ (n : Nat) (l0 l1 : Option Value) (y2 : Int32) (r : List Value) (σ : zk_S) (sz k c : Nat), zk_go E (zk_VT E) M_X0_countInside (C_X0_countInside E) P PX K n 4 [l0, l1, some (.int y2)] r (σ, sz, k, c) = zk_run E (zk_VT E) M_X0_countInside (C_X0_countInside E) P PX K n 5 [l0, l1, some (.int y2)] (.int y2 :: r) (σ, sz, k, c)) := ⟨by intros; rfl, by intros; rfl, by intros; rfl, by intros; rfl, by intros; rfl, by intros; rfl, by intros; rfl, by intros; rfl, by intros; rfl, by intros; rfl, by intros; rfl, by intros; rfl, by intros; rfl, by intros; rfl, by intros; rfl, by intros; rfl, by intros; rfl, by intros; rfl, by intros; rfl, by intros; rfl⟩
theorem vc_X0_countInside (E : zk_E) : zk_VC E (zk_VT E) M_X0_countInside (C_X0_countInside E) 3 (sp_X0_countInside E) := by
  intro av σ sz P PX h
  obtain ⟨J, N, Q, O, U⟩ := σ
  unfold sp_X0_countInside at h
  split at h
  case h_2 => exact h.elim
  rename_i a0
  obtain ⟨rfl, h⟩ := h
  refine ⟨Nat.le_of_ble_eq_true rfl, fun G hG => ?_⟩
  change G 0 [some (.ref (zk_ad E 15)), none, none] [] ((J, N, Q, O, U), sz, 0, 0)
  try dsimp only at h
  obtain ⟨f, hwi, h⟩ := h
  have loop : ∀ m k, k + m = 20 → G 4 [some (.ref (zk_ad E 15)), some (.int (nI (sumN f k))), some (.int (nI k))] [] ((J, N, Q, O, U), sz, 0, 0) := by
    intro m
    induction m with
    | zero =>
      intro k hk
      have c1 : (20 : Int32) ≤ nI k := (nI_le (a := 20) (by omega) (by omega) : nI 20 ≤ nI k)
      have ek : k = 20 := by omega
      subst ek
      (refine hG 900 _ _ _ _ ?_; simp only [r_X0_countInside, zk_kl_none, zk_kl_int, zk_kl_ref, zk_kl_null, zk_kl_long, zk_kl_rf, zk_isr_ref, zk_isr_null, zk_isr_rf9, zk_c1_int, zk_c1_ref, zk_c1_null, zk_c1_rf, zk_psh_some, zk_psh_none, zk_nok_int, zk_nok_bool0, zk_nok_bool1, zk_nok_b, zk_fok_0, zk_fok_1, zk_fok_2, zk_fok_n, zk_fok_rf, zb_f, zb_p, zb_i, zb_a, zb_s, zk_nth_0, zk_nth_s, zk_fld_o, zk_put_o, zk_rv_eq, zk_ri_eq, zk_is_o, List.mem_cons, List.not_mem_nil, or_false, false_or, or_true, true_or, and_true, true_and, not_false_iff, not_true_eq_false, true_implies, false_implies, imp_self, implies_true, forall_const, zk_lit, zk_uj_ap, zk_un_ap, zk_un_un, zk_uj_uj, Nat.reduceEqDiff, eq_self, zk_bq, Bool.true_or, Bool.false_or, Nat.le_refl, Nat.zero_add, Nat.add_zero, Nat.reduceAdd, Nat.reduceLeDiff, Nat.le_zero_eq, and_self, and_false, false_and, ite_true, ite_false, Nat.zero_le, List.length_cons, List.length_nil, Option.some.injEq, forall_eq', reduceCtorEq, c1])
      exact h
    | succ m ih =>
      intro k hk
      have c1 : ¬ (20 : Int32) ≤ nI k := (nI_ge (b := 20) (by omega) (by decide) : ¬ nI 20 ≤ nI k)
      have hin : vp_in (nI k) 20 := n_in (by omega) (by decide)
      have hcl : (nI k).toNatClampNeg = k := n_cl (by omega)
      have h16 : N 16 k = nI (f k) := hwi k (by omega)
      have ih2 := ih (k + 1) (by omega)
      rw [sumN] at ih2
      (refine hG 900 _ _ _ _ ?_; simp only [r_X0_countInside, zk_kl_none, zk_kl_int, zk_kl_ref, zk_kl_null, zk_kl_long, zk_kl_rf, zk_isr_ref, zk_isr_null, zk_isr_rf9, zk_c1_int, zk_c1_ref, zk_c1_null, zk_c1_rf, zk_psh_some, zk_psh_none, zk_nok_int, zk_nok_bool0, zk_nok_bool1, zk_nok_b, zk_fok_0, zk_fok_1, zk_fok_2, zk_fok_n, zk_fok_rf, zb_f, zb_p, zb_i, zb_a, zb_s, zk_nth_0, zk_nth_s, zk_fld_o, zk_put_o, zk_rv_eq, zk_ri_eq, zk_is_o, List.mem_cons, List.not_mem_nil, or_false, false_or, or_true, true_or, and_true, true_and, not_false_iff, not_true_eq_false, true_implies, false_implies, imp_self, implies_true, forall_const, zk_lit, zk_uj_ap, zk_un_ap, zk_un_un, zk_uj_uj, Nat.reduceEqDiff, eq_self, zk_bq, Bool.true_or, Bool.false_or, Nat.le_refl, Nat.zero_add, Nat.add_zero, Nat.reduceAdd, Nat.reduceLeDiff, Nat.le_zero_eq, and_self, and_false, false_and, ite_true, ite_false, Nat.zero_le, List.length_cons, List.length_nil, Option.some.injEq, forall_eq', reduceCtorEq, c1, hin, hcl, h16, n_add, n_succ])
      exact ih2
  have l0 := loop 20 0 (by omega)
  (refine hG 900 _ _ _ _ ?_; simp only [r_X0_countInside, zk_kl_none, zk_kl_int, zk_kl_ref, zk_kl_null, zk_kl_long, zk_kl_rf, zk_isr_ref, zk_isr_null, zk_isr_rf9, zk_c1_int, zk_c1_ref, zk_c1_null, zk_c1_rf, zk_psh_some, zk_psh_none, zk_nok_int, zk_nok_bool0, zk_nok_bool1, zk_nok_b, zk_fok_0, zk_fok_1, zk_fok_2, zk_fok_n, zk_fok_rf, zb_f, zb_p, zb_i, zb_a, zb_s, zk_nth_0, zk_nth_s, zk_fld_o, zk_put_o, zk_rv_eq, zk_ri_eq, zk_is_o, List.mem_cons, List.not_mem_nil, or_false, false_or, or_true, true_or, and_true, true_and, not_false_iff, not_true_eq_false, true_implies, false_implies, imp_self, implies_true, forall_const, zk_lit, zk_uj_ap, zk_un_ap, zk_un_un, zk_uj_uj, Nat.reduceEqDiff, eq_self, zk_bq, Bool.true_or, Bool.false_or, Nat.le_refl, Nat.zero_add, Nat.add_zero, Nat.reduceAdd, Nat.reduceLeDiff, Nat.le_zero_eq, and_self, and_false, false_and, ite_true, ite_false, Nat.zero_le, List.length_cons, List.length_nil, Option.some.injEq, forall_eq', reduceCtorEq])
  exact l0
theorem ct_X0_countInside {l : Launch} (hl : l.stackTraces = false) (E : zk_E) : zk_C l E (zk_VT E) yX0_countInside cX0_countInside 3 (some (.int)) rm_X0_countInside (sp_X0_countInside E) := by
  refine zk_meth (M := M_X0_countInside) (C := C_X0_countInside E) hl (by decide +kernel) rfl (fun _ _ => rfl) (zk_VT_ok E) MO_X0_countInside TO_X0_countInside THo_X0_countInside ?_ (vc_X0_countInside E)
  exact fun p e s m args below meth c X pc n mc ms sp2 h => absurd (zk_lka_mem h) List.not_mem_nil


