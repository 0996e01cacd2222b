/-! the class: rooms, doors, stairs, roomAt, areJoined, meanWay, mostPeople -/
def sp_X10_doors (E : zk_E) : zk_Sp zk_S := fun av σ sz P PX => match av with
  | [.ref a] => a = zk_ad E 0 ∧ ∃ J N, IC E sz σ J N ∧ P (some (.int (m_doorsNow J N))) σ sz
  | _ => False
theorem spe_X10_doors (E : zk_E) (a : Nat) (σ : zk_S) (sz : Nat) (P : zk_P zk_S) (PX : zk_X zk_S) : sp_X10_doors E [.ref a] σ sz P PX = (a = zk_ad E 0 ∧ ∃ J N, IC E sz σ J N ∧ P (some (.int (m_doorsNow J N))) σ sz) := propext Iff.rfl
def C_X10_doors (E : zk_E) : zk_Cl zk_S := zk_lka [(7, 3, 0, 0, zk_rv (zk_VT E) (fun ci => Nat.beq ci 4) (sp_X5_countExits E))]
theorem r_X10_doors (E : zk_E) (P : zk_P zk_S) (PX : zk_X zk_S) (K : Nat → zk_L → List Value → zk_W zk_S → Prop) : (∀ (n : Nat)  (y0 : Value) (r : List Value) (σ : zk_S) (sz k c : Nat), zk_run E (zk_VT E) M_X10_doors (C_X10_doors E) P PX K (n + 1) 0 [some y0] r (σ, sz, k, c) = (zk_isr y0 ∧ zk_run E (zk_VT E) M_X10_doors (C_X10_doors E) P PX K n 1 [some y0] (y0 :: r) (σ, sz, k, c))) ∧
  (∀ (n : Nat) (l0 : Option Value) (a : Nat) (r : List Value) (σ : zk_S) (sz k c : Nat), zk_run E (zk_VT E) M_X10_doors (C_X10_doors E) P PX K (n + 1) 1 [l0] (.ref a :: r) (σ, sz, k, c) = zk_fld (zk_view E σ a) [9] 0 (fun v => zk_run E (zk_VT E) M_X10_doors (C_X10_doors E) P PX K n 4 [l0] (v :: r) (σ, sz, k, c))) ∧
  (∀ (n : Nat) (l0 : Option Value)  (r : List Value) (σ : zk_S) (sz k c : Nat), zk_run E (zk_VT E) M_X10_doors (C_X10_doors E) P PX K (n + 1) 4 [l0] r (σ, sz, k, c) = zk_run E (zk_VT E) M_X10_doors (C_X10_doors E) P PX K n 5 [l0] (.int (0) :: r) (σ, sz, k, c)) ∧
  (∀ (n : Nat) (l0 : Option Value)  (r : List Value) (σ : zk_S) (sz k c : Nat), zk_run E (zk_VT E) M_X10_doors (C_X10_doors E) P PX K (n + 1) 5 [l0] r (σ, sz, k, c) = zk_run E (zk_VT E) M_X10_doors (C_X10_doors E) P PX K n 7 [l0] (.int (40) :: r) (σ, sz, k, c)) ∧
  (∀ (n : Nat) (l0 : Option Value) (v0 : Value) (v1 : Value) (v2 : Value)  (σ : zk_S) (sz k c : Nat), zk_run E (zk_VT E) M_X10_doors (C_X10_doors E) P PX K (n + 1) 7 [l0] [v0, v1, v2] (σ, sz, k, c) = (k + 0 ≤ 0 ∧ c + 0 ≤ 0 ∧ (zk_rv (zk_VT E) (fun ci => Nat.beq ci 4) (sp_X5_countExits E)) [v2, v1, v0] σ sz (fun v s2 z2 => zk_run E (zk_VT E) M_X10_doors (C_X10_doors E) P PX K n 10 [l0] (zk_psh v []) (s2, z2, k + 0, c + 0)) (fun X s2 z2 => PX X s2 z2))) ∧
  (∀ (n : Nat) (l0 : Option Value) (x : Int32)  (σ : zk_S) (sz k c : Nat), zk_run E (zk_VT E) M_X10_doors (C_X10_doors E) P PX K (n + 1) 10 [l0] [.int x] (σ, sz, k, c) = (zk_nok (some (.int)) x ∧ P (some (.int x)) σ sz ∧ k ≤ 0 ∧ c ≤ 0)) ∧
  (∀ (n : Nat) (l0 : Option Value) (r : List Value) (w : zk_W zk_S), zk_go E (zk_VT E) M_X10_doors (C_X10_doors E) P PX K n 0 [l0] r w = zk_run E (zk_VT E) M_X10_doors (C_X10_doors E) P PX K (n + 1) 0 [l0] r w) := ⟨by intros; rfl, by intros; rfl, by intros; rfl, by intros; rfl, by intros; rfl, by intros; rfl, by intros; rfl⟩
theorem vc_X10_doors (E : zk_E) : zk_VC E (zk_VT E) M_X10_doors (C_X10_doors E) 1 (sp_X10_doors E) := by
  intro av σ sz P PX h
  obtain ⟨J, N, Q, O, U⟩ := σ
  unfold sp_X10_doors at h
  split at h
  case h_2 => exact h.elim
  rename_i a0
  obtain ⟨rfl, h⟩ := h
  refine ⟨Nat.le_of_ble_eq_true rfl, fun G hG => ?_⟩
  change G 0 [some (.ref (zk_ad E 0))] [] ((J, N, Q, O, U), sz, 0, 0)
  try dsimp only at h
  obtain ⟨J1, N1, ⟨hmi, hxr, hrk⟩, h⟩ := h
  have e := hxr.2.2.1.cnt hmi.1
  (refine hG 900 _ _ _ _ ?_; simp only [r_X10_doors, zk_kl_none, zk_kl_int, zk_kl_ref, zk_kl_null, zk_kl_long, zk_kl_rf, zk_isr_ref, zk_isr_null, zk_isr_rf9, zk_c1_int, zk_c1_ref, zk_c1_null, zk_c1_rf, zk_psh_some, zk_psh_none, zk_nok_int, zk_nok_bool0, zk_nok_bool1, zk_nok_b, zk_fok_0, zk_fok_1, zk_fok_2, zk_fok_n, zk_fok_rf, zb_f, zb_p, zb_i, zb_a, zb_s, zk_nth_0, zk_nth_s, zk_fld_o, zk_put_o, zk_rv_eq, zk_ri_eq, zk_is_o, List.mem_cons, List.not_mem_nil, or_false, false_or, or_true, true_or, and_true, true_and, not_false_iff, not_true_eq_false, true_implies, false_implies, imp_self, implies_true, forall_const, zk_lit, zk_uj_ap, zk_un_ap, zk_un_un, zk_uj_uj, Nat.reduceEqDiff, eq_self, zk_bq, Bool.true_or, Bool.false_or, Nat.le_refl, Nat.zero_add, Nat.add_zero, Nat.reduceAdd, Nat.reduceLeDiff, Nat.le_zero_eq, and_self, and_false, false_and, ite_true, ite_false, Nat.zero_le, List.length_cons, List.length_nil, Option.some.injEq, forall_eq', reduceCtorEq, spe_X5_countExits])
  refine ⟨0, 40, by decide, rfl, rfl, ?_⟩
  rw [← e] at h
  exact h
theorem ct_X10_doors {l : Launch} (hl : l.stackTraces = false) (E : zk_E) : zk_C l E (zk_VT E) yX10_doors cX10_doors 1 (some (.int)) rm_X10_doors (sp_X10_doors E) := by
  refine zk_meth (M := M_X10_doors) (C := C_X10_doors E) hl (by decide +kernel) rfl (fun _ _ => rfl) (zk_VT_ok E) MO_X10_doors TO_X10_doors THo_X10_doors ?_ (vc_X10_doors E)
  exact fun p e s m args below meth c X pc n mc ms sp2 h => by
    have h2 := zk_lka_mem h
    simp only [List.mem_cons, List.not_mem_nil, or_false, Prod.mk.injEq] at h2
    rcases h2 with ⟨rfl, rfl, rfl, rfl, rfl⟩
    exact zk_coV (idx := 174) X (ct_X5_countExits hl E) (List.forall_mem_cons.mpr ⟨zk_wi 383 (by decide +kernel) rfl, List.forall_mem_cons.mpr ⟨zk_wi 384 (by decide +kernel) rfl, List.forall_mem_cons.mpr ⟨zk_wi 385 (by decide +kernel) rfl, List.forall_mem_cons.mpr ⟨zk_wi 3 (by decide +kernel) rfl, List.forall_mem_cons.mpr ⟨zk_wi 386 (by decide +kernel) rfl, fun _ h => absurd h List.not_mem_nil⟩⟩⟩⟩⟩) (fun ci h => by
      have h := Nat.eq_of_beq_eq_true h
      subst h
      exact ⟨_, _, rfl⟩) (by decide +kernel) ⟨by decide, by decide, by decide +kernel⟩ ⟨by decide, by decide⟩
def sp_X10_stairs (E : zk_E) : zk_Sp zk_S := fun av σ sz P PX => match av with
  | [.ref a] => a = zk_ad E 0 ∧ ∃ J N, IC E sz σ J N ∧ P (some (.int (m_stairsNow J N))) σ sz
  | _ => False
theorem spe_X10_stairs (E : zk_E) (a : Nat) (σ : zk_S) (sz : Nat) (P : zk_P zk_S) (PX : zk_X zk_S) : sp_X10_stairs E [.ref a] σ sz P PX = (a = zk_ad E 0 ∧ ∃ J N, IC E sz σ J N ∧ P (some (.int (m_stairsNow J N))) σ sz) := propext Iff.rfl
def C_X10_stairs (E : zk_E) : zk_Cl zk_S := zk_lka [(8, 3, 0, 0, zk_rv (zk_VT E) (fun ci => Nat.beq ci 4) (sp_X5_countExits E))]
theorem r_X10_stairs (E : zk_E) (P : zk_P zk_S) (PX : zk_X zk_S) (K : Nat → zk_L → List Value → zk_W zk_S → Prop) : (∀ (n : Nat)  (y0 : Value) (r : List Value) (σ : zk_S) (sz k c : Nat), zk_run E (zk_VT E) M_X10_stairs (C_X10_stairs E) P PX K (n + 1) 0 [some y0] r (σ, sz, k, c) = (zk_isr y0 ∧ zk_run E (zk_VT E) M_X10_stairs (C_X10_stairs E) P PX K n 1 [some y0] (y0 :: r) (σ, sz, k, c))) ∧
  (∀ (n : Nat) (l0 : Option Value) (a : Nat) (r : List Value) (σ : zk_S) (sz k c : Nat), zk_run E (zk_VT E) M_X10_stairs (C_X10_stairs E) P PX K (n + 1) 1 [l0] (.ref a :: r) (σ, sz, k, c) = zk_fld (zk_view E σ a) [9] 0 (fun v => zk_run E (zk_VT E) M_X10_stairs (C_X10_stairs E) P PX K n 4 [l0] (v :: r) (σ, sz, k, c))) ∧
  (∀ (n : Nat) (l0 : Option Value)  (r : List Value) (σ : zk_S) (sz k c : Nat), zk_run E (zk_VT E) M_X10_stairs (C_X10_stairs E) P PX K (n + 1) 4 [l0] r (σ, sz, k, c) = zk_run E (zk_VT E) M_X10_stairs (C_X10_stairs E) P PX K n 6 [l0] (.int (40) :: r) (σ, sz, k, c)) ∧
  (∀ (n : Nat) (l0 : Option Value)  (r : List Value) (σ : zk_S) (sz k c : Nat), zk_run E (zk_VT E) M_X10_stairs (C_X10_stairs E) P PX K (n + 1) 6 [l0] r (σ, sz, k, c) = zk_run E (zk_VT E) M_X10_stairs (C_X10_stairs E) P PX K n 8 [l0] (.int (50) :: r) (σ, sz, k, c)) ∧
  (∀ (n : Nat) (l0 : Option Value) (v0 : Value) (v1 : Value) (v2 : Value)  (σ : zk_S) (sz k c : Nat), zk_run E (zk_VT E) M_X10_stairs (C_X10_stairs E) P PX K (n + 1) 8 [l0] [v0, v1, v2] (σ, sz, k, c) = (k + 0 ≤ 0 ∧ c + 0 ≤ 0 ∧ (zk_rv (zk_VT E) (fun ci => Nat.beq ci 4) (sp_X5_countExits E)) [v2, v1, v0] σ sz (fun v s2 z2 => zk_run E (zk_VT E) M_X10_stairs (C_X10_stairs E) P PX K n 11 [l0] (zk_psh v []) (s2, z2, k + 0, c + 0)) (fun X s2 z2 => PX X s2 z2))) ∧
  (∀ (n : Nat) (l0 : Option Value) (x : Int32)  (σ : zk_S) (sz k c : Nat), zk_run E (zk_VT E) M_X10_stairs (C_X10_stairs E) P PX K (n + 1) 11 [l0] [.int x] (σ, sz, k, c) = (zk_nok (some (.int)) x ∧ P (some (.int x)) σ sz ∧ k ≤ 0 ∧ c ≤ 0)) ∧
  (∀ (n : Nat) (l0 : Option Value) (r : List Value) (w : zk_W zk_S), zk_go E (zk_VT E) M_X10_stairs (C_X10_stairs E) P PX K n 0 [l0] r w = zk_run E (zk_VT E) M_X10_stairs (C_X10_stairs E) P PX K (n + 1) 0 [l0] r w) := ⟨by intros; rfl, by intros; rfl, by intros; rfl, by intros; rfl, by intros; rfl, by intros; rfl, by intros; rfl⟩
theorem vc_X10_stairs (E : zk_E) : zk_VC E (zk_VT E) M_X10_stairs (C_X10_stairs E) 1 (sp_X10_stairs E) := by
  intro av σ sz P PX h
  obtain ⟨J, N, Q, O, U⟩ := σ
  unfold sp_X10_stairs at h
  split at h
  case h_2 => exact h.elim
  rename_i a0
  obtain ⟨rfl, h⟩ := h
  refine ⟨Nat.le_of_ble_eq_true rfl, fun G hG => ?_⟩
  change G 0 [some (.ref (zk_ad E 0))] [] ((J, N, Q, O, U), sz, 0, 0)
  try dsimp only at h
  obtain ⟨J1, N1, ⟨hmi, hxr, hrk⟩, h⟩ := h
  have e := hxr.2.2.2.2.1.cnt hmi.1
  (refine hG 900 _ _ _ _ ?_; simp only [r_X10_stairs, zk_kl_none, zk_kl_int, zk_kl_ref, zk_kl_null, zk_kl_long, zk_kl_rf, zk_isr_ref, zk_isr_null, zk_isr_rf9, zk_c1_int, zk_c1_ref, zk_c1_null, zk_c1_rf, zk_psh_some, zk_psh_none, zk_nok_int, zk_nok_bool0, zk_nok_bool1, zk_nok_b, zk_fok_0, zk_fok_1, zk_fok_2, zk_fok_n, zk_fok_rf, zb_f, zb_p, zb_i, zb_a, zb_s, zk_nth_0, zk_nth_s, zk_fld_o, zk_put_o, zk_rv_eq, zk_ri_eq, zk_is_o, List.mem_cons, List.not_mem_nil, or_false, false_or, or_true, true_or, and_true, true_and, not_false_iff, not_true_eq_false, true_implies, false_implies, imp_self, implies_true, forall_const, zk_lit, zk_uj_ap, zk_un_ap, zk_un_un, zk_uj_uj, Nat.reduceEqDiff, eq_self, zk_bq, Bool.true_or, Bool.false_or, Nat.le_refl, Nat.zero_add, Nat.add_zero, Nat.reduceAdd, Nat.reduceLeDiff, Nat.le_zero_eq, and_self, and_false, false_and, ite_true, ite_false, Nat.zero_le, List.length_cons, List.length_nil, Option.some.injEq, forall_eq', reduceCtorEq, spe_X5_countExits])
  refine ⟨40, 10, by decide, rfl, rfl, ?_⟩
  rw [← e] at h
  exact h
theorem ct_X10_stairs {l : Launch} (hl : l.stackTraces = false) (E : zk_E) : zk_C l E (zk_VT E) yX10_stairs cX10_stairs 1 (some (.int)) rm_X10_stairs (sp_X10_stairs E) := by
  refine zk_meth (M := M_X10_stairs) (C := C_X10_stairs E) hl (by decide +kernel) rfl (fun _ _ => rfl) (zk_VT_ok E) MO_X10_stairs TO_X10_stairs THo_X10_stairs ?_ (vc_X10_stairs E)
  exact fun p e s m args below meth c X pc n mc ms sp2 h => by
    have h2 := zk_lka_mem h
    simp only [List.mem_cons, List.not_mem_nil, or_false, Prod.mk.injEq] at h2
    rcases h2 with ⟨rfl, rfl, rfl, rfl, rfl⟩
    exact zk_coV (idx := 174) X (ct_X5_countExits hl E) (List.forall_mem_cons.mpr ⟨zk_wi 383 (by decide +kernel) rfl, List.forall_mem_cons.mpr ⟨zk_wi 384 (by decide +kernel) rfl, List.forall_mem_cons.mpr ⟨zk_wi 385 (by decide +kernel) rfl, List.forall_mem_cons.mpr ⟨zk_wi 3 (by decide +kernel) rfl, List.forall_mem_cons.mpr ⟨zk_wi 386 (by decide +kernel) rfl, fun _ h => absurd h List.not_mem_nil⟩⟩⟩⟩⟩) (fun ci h => by
      have h := Nat.eq_of_beq_eq_true h
      subst h
      exact ⟨_, _, rfl⟩) (by decide +kernel) ⟨by decide, by decide, by decide +kernel⟩ ⟨by decide, by decide⟩
def sp_X10_rooms (E : zk_E) : zk_Sp zk_S := fun av σ sz P PX => match av with
  | [.ref a] => a = zk_ad E 0 ∧ ∃ J N, IC E sz σ J N ∧ P (some (.int (m_roomsNow J N))) σ sz
  | _ => False
theorem spe_X10_rooms (E : zk_E) (a : Nat) (σ : zk_S) (sz : Nat) (P : zk_P zk_S) (PX : zk_X zk_S) : sp_X10_rooms E [.ref a] σ sz P PX = (a = zk_ad E 0 ∧ ∃ J N, IC E sz σ J N ∧ P (some (.int (m_roomsNow J N))) σ sz) := propext Iff.rfl
def C_X10_rooms (E : zk_E) : zk_Cl zk_S := zk_lka []
theorem r_X10_rooms (E : zk_E) (P : zk_P zk_S) (PX : zk_X zk_S) (K : Nat → zk_L → List Value → zk_W zk_S → Prop) : (∀ (n : Nat) (l0 l1 l2 l3 l4 l5 : Option Value)  (r : List Value) (σ : zk_S) (sz k c : Nat), zk_run E (zk_VT E) M_X10_rooms (C_X10_rooms E) P PX K (n + 1) 0 [l0, l1, l2, l3, l4, l5] r (σ, sz, k, c) = zk_run E (zk_VT E) M_X10_rooms (C_X10_rooms E) P PX K n 1 [l0, l1, l2, l3, l4, l5] (.int (0) :: r) (σ, sz, k, c)) ∧
  (∀ (n : Nat) (l0 l1 l2 l3 l4 l5 : Option Value) (x : Int32) (r : List Value) (σ : zk_S) (sz k c : Nat), zk_run E (zk_VT E) M_X10_rooms (C_X10_rooms E) P PX K (n + 1) 1 [l0, l1, l2, l3, l4, l5] (.int x :: r) (σ, sz, k, c) = zk_run E (zk_VT E) M_X10_rooms (C_X10_rooms E) P PX K n 2 [zk_kl l0, some (.int x), l2, l3, l4, l5] r (σ, sz, k, c)) ∧
  (∀ (n : Nat) (l1 l2 l3 l4 l5 : Option Value) (y0 : Value) (r : List Value) (σ : zk_S) (sz k c : Nat), zk_run E (zk_VT E) M_X10_rooms (C_X10_rooms E) P PX K (n + 1) 2 [some y0, l1, l2, l3, l4, l5] r (σ, sz, k, c) = (zk_isr y0 ∧ zk_run E (zk_VT E) M_X10_rooms (C_X10_rooms E) P PX K n 3 [some y0, l1, l2, l3, l4, l5] (y0 :: r) (σ, sz, k, c))) ∧
  (∀ (n : Nat) (l0 l1 l2 l3 l4 l5 : Option Value) (a : Nat) (r : List Value) (σ : zk_S) (sz k c : Nat), zk_run E (zk_VT E) M_X10_rooms (C_X10_rooms E) P PX K (n + 1) 3 [l0, l1, l2, l3, l4, l5] (.ref a :: r) (σ, sz, k, c) = zk_fld (zk_view E σ a) [9] 0 (fun v => zk_run E (zk_VT E) M_X10_rooms (C_X10_rooms E) P PX K n 6 [l0, l1, l2, l3, l4, l5] (v :: r) (σ, sz, k, c))) ∧
  (∀ (n : Nat) (l0 l1 l2 l3 l4 l5 : Option Value) (a : Nat) (r : List Value) (σ : zk_S) (sz k c : Nat), zk_run E (zk_VT E) M_X10_rooms (C_X10_rooms E) P PX K (n + 1) 6 [l0, l1, l2, l3, l4, l5] (.ref a :: r) (σ, sz, k, c) = zk_fld (zk_view E σ a) [4] 0 (fun v => zk_run E (zk_VT E) M_X10_rooms (C_X10_rooms E) P PX K n 9 [l0, l1, l2, l3, l4, l5] (v :: r) (σ, sz, k, c))) ∧
  (∀ (n : Nat) (l0 l1 l2 l3 l4 l5 : Option Value) (x : Value) (r : List Value) (σ : zk_S) (sz k c : Nat), zk_run E (zk_VT E) M_X10_rooms (C_X10_rooms E) P PX K (n + 1) 9 [l0, l1, l2, l3, l4, l5] (x :: r) (σ, sz, k, c) = (zk_isr x ∧ zk_run E (zk_VT E) M_X10_rooms (C_X10_rooms E) P PX K n 10 [l0, zk_kl l1, some (x), l3, l4, l5] r (σ, sz, k, c))) ∧
  (∀ (n : Nat) (l0 l1 l3 l4 l5 : Option Value) (y2 : Value) (r : List Value) (σ : zk_S) (sz k c : Nat), zk_run E (zk_VT E) M_X10_rooms (C_X10_rooms E) P PX K (n + 1) 10 [l0, l1, some y2, l3, l4, l5] r (σ, sz, k, c) = (zk_isr y2 ∧ zk_run E (zk_VT E) M_X10_rooms (C_X10_rooms E) P PX K n 11 [l0, l1, some y2, l3, l4, l5] (y2 :: r) (σ, sz, k, c))) ∧
  (∀ (n : Nat) (l0 l1 l2 l3 l4 l5 : Option Value) (a : Nat) (r : List Value) (σ : zk_S) (sz k c : Nat), zk_run E (zk_VT E) M_X10_rooms (C_X10_rooms E) P PX K (n + 1) 11 [l0, l1, l2, l3, l4, l5] (.ref a :: r) (σ, sz, k, c) = zk_lenq E (zk_view E σ a) (fun x => zk_run E (zk_VT E) M_X10_rooms (C_X10_rooms E) P PX K n 12 [l0, l1, l2, l3, l4, l5] (.int x :: r) (σ, sz, k, c))) ∧
  (∀ (n : Nat) (l0 l1 l2 l3 l4 l5 : Option Value) (x : Int32) (r : List Value) (σ : zk_S) (sz k c : Nat), zk_run E (zk_VT E) M_X10_rooms (C_X10_rooms E) P PX K (n + 1) 12 [l0, l1, l2, l3, l4, l5] (.int x :: r) (σ, sz, k, c) = zk_run E (zk_VT E) M_X10_rooms (C_X10_rooms E) P PX K n 13 [l0, l1, zk_kl l2, some (.int x), l4, l5] r (σ, sz, k, c)) ∧
  (∀ (n : Nat) (l0 l1 l2 l3 l4 l5 : Option Value)  (r : List Value) (σ : zk_S) (sz k c : Nat), zk_run E (zk_VT E) M_X10_rooms (C_X10_rooms E) P PX K (n + 1) 13 [l0, l1, l2, l3, l4, l5] r (σ, sz, k, c) = zk_run E (zk_VT E) M_X10_rooms (C_X10_rooms E) P PX K n 14 [l0, l1, l2, l3, l4, l5] (.int (0) :: r) (σ, sz, k, c)) ∧
  (∀ (n : Nat) (l0 l1 l2 l3 l4 l5 : Option Value) (x : Int32) (r : List Value) (σ : zk_S) (sz k c : Nat), zk_run E (zk_VT E) M_X10_rooms (C_X10_rooms E) P PX K (n + 1) 14 [l0, l1, l2, l3, l4, l5] (.int x :: r) (σ, sz, k, c) = zk_run E (zk_VT E) M_X10_rooms (C_X10_rooms E) P PX K n 16 [l0, l1, l2, zk_kl l3, some (.int x), l5] r (σ, sz, k, c)) ∧
  (∀ (n : Nat) (l0 l1 l2 l3 l4 l5 : Option Value)  (r : List Value) (σ : zk_S) (sz k c : Nat), zk_run E (zk_VT E) M_X10_rooms (C_X10_rooms E) P PX K (n + 1) 16 [l0, l1, l2, l3, l4, l5] r (σ, sz, k, c) = K 16 [l0, l1, l2, l3, l4, l5] r (σ, sz, k, c)) ∧
  (∀ (n : Nat) (l0 l1 l2 l4 l5 : Option Value) (y3 : Int32) (r : List Value) (σ : zk_S) (sz k c : Nat), zk_run E (zk_VT E) M_X10_rooms (C_X10_rooms E) P PX K (n + 1) 18 [l0, l1, l2, some (.int y3), l4, l5] r (σ, sz, k, c) = zk_run E (zk_VT E) M_X10_rooms (C_X10_rooms E) P PX K n 19 [l0, l1, l2, some (.int y3), l4, l5] (.int y3 :: r) (σ, sz, k, c)) ∧
  (∀ (n : Nat) (l0 l1 l2 l3 l4 l5 : Option Value) (x y : Int32) (r : List Value) (σ : zk_S) (sz k c : Nat), zk_run E (zk_VT E) M_X10_rooms (C_X10_rooms E) P PX K (n + 1) 19 [l0, l1, l2, l3, l4, l5] (.int y :: .int x :: r) (σ, sz, k, c) = ((y ≤ x → zk_run E (zk_VT E) M_X10_rooms (C_X10_rooms E) P PX K n 42 [l0, l1, l2, l3, l4, l5] r (σ, sz, k, c)) ∧ (¬ (y ≤ x) → zk_run E (zk_VT E) M_X10_rooms (C_X10_rooms E) P PX K n 22 [l0, l1, l2, l3, l4, l5] r (σ, sz, k, c)))) ∧
  (∀ (n : Nat) (l0 l1 l3 l4 l5 : Option Value) (y2 : Value) (r : List Value) (σ : zk_S) (sz k c : Nat), zk_run E (zk_VT E) M_X10_rooms (C_X10_rooms E) P PX K (n + 1) 22 [l0, l1, some y2, l3, l4, l5] r (σ, sz, k, c) = (zk_isr y2 ∧ zk_run E (zk_VT E) M_X10_rooms (C_X10_rooms E) P PX K n 23 [l0, l1, some y2, l3, l4, l5] (y2 :: r) (σ, sz, k, c))) ∧
  (∀ (n : Nat) (l0 l1 l2 l3 l5 : Option Value) (y4 : Int32) (r : List Value) (σ : zk_S) (sz k c : Nat), zk_run E (zk_VT E) M_X10_rooms (C_X10_rooms E) P PX K (n + 1) 23 [l0, l1, l2, l3, some (.int y4), l5] r (σ, sz, k, c) = zk_run E (zk_VT E) M_X10_rooms (C_X10_rooms E) P PX K n 25 [l0, l1, l2, l3, some (.int y4), l5] (.int y4 :: r) (σ, sz, k, c)) ∧
  (∀ (n : Nat) (l0 l1 l2 l3 l4 l5 : Option Value) (a : Nat) (i : Int32) (r : List Value) (σ : zk_S) (sz k c : Nat), zk_run E (zk_VT E) M_X10_rooms (C_X10_rooms E) P PX K (n + 1) 25 [l0, l1, l2, l3, l4, l5] (.int i :: .ref a :: r) (σ, sz, k, c) = zk_qld (zk_view E σ a) i [zk_ar E 3, zk_ar E 4, zk_ar E 5, zk_ar E 6, zk_ar E 7] (fun x => (x = none → zk_run E (zk_VT E) M_X10_rooms (C_X10_rooms E) P PX K n 26 [l0, l1, l2, l3, l4, l5] (.null :: r) (σ, sz, k, c)) ∧ ∀ b, x = some b → zk_run E (zk_VT E) M_X10_rooms (C_X10_rooms E) P PX K n 26 [l0, l1, l2, l3, l4, l5] (.ref b :: r) (σ, sz, k, c))) ∧
  (∀ (n : Nat) (l0 l1 l2 l3 l4 l5 : Option Value) (x : Value) (r : List Value) (σ : zk_S) (sz k c : Nat), zk_run E (zk_VT E) M_X10_rooms (C_X10_rooms E) P PX K (n + 1) 26 [l0, l1, l2, l3, l4, l5] (x :: r) (σ, sz, k, c) = (zk_isr x ∧ zk_run E (zk_VT E) M_X10_rooms (C_X10_rooms E) P PX K n 28 [l0, l1, l2, l3, zk_kl l4, some (x)] r (σ, sz, k, c))) ∧
  (∀ (n : Nat) (l0 l1 l2 l3 l4 : Option Value) (y5 : Value) (r : List Value) (σ : zk_S) (sz k c : Nat), zk_run E (zk_VT E) M_X10_rooms (C_X10_rooms E) P PX K (n + 1) 28 [l0, l1, l2, l3, l4, some y5] r (σ, sz, k, c) = (zk_isr y5 ∧ zk_run E (zk_VT E) M_X10_rooms (C_X10_rooms E) P PX K n 30 [l0, l1, l2, l3, l4, some y5] (y5 :: r) (σ, sz, k, c))) ∧
  (∀ (n : Nat) (l0 l1 l2 l3 l4 l5 : Option Value) (v : Value) (r : List Value) (σ : zk_S) (sz k c : Nat), zk_run E (zk_VT E) M_X10_rooms (C_X10_rooms E) P PX K (n + 1) 30 [l0, l1, l2, l3, l4, l5] (v :: r) (σ, sz, k, c) = (zk_isr v ∧ (v = .null → zk_run E (zk_VT E) M_X10_rooms (C_X10_rooms E) P PX K n 36 [l0, l1, l2, l3, l4, l5] r (σ, sz, k, c)) ∧ (¬ (v = .null) → zk_run E (zk_VT E) M_X10_rooms (C_X10_rooms E) P PX K n 33 [l0, l1, l2, l3, l4, l5] r (σ, sz, k, c)))) ∧
  (∀ (n : Nat) (l0 l2 l3 l4 l5 : Option Value) (y1 : Int32) (r : List Value) (σ : zk_S) (sz k c : Nat), zk_run E (zk_VT E) M_X10_rooms (C_X10_rooms E) P PX K (n + 1) 33 [l0, some (.int y1), l2, l3, l4, l5] r (σ, sz, k, c) = zk_run E (zk_VT E) M_X10_rooms (C_X10_rooms E) P PX K n 36 [zk_kl l0, some (.int (y1 + 1)), l2, l3, l4, l5] r (σ, sz, k, c)) ∧
  (∀ (n : Nat) (l0 l1 l2 l3 l5 : Option Value) (y4 : Int32) (r : List Value) (σ : zk_S) (sz k c : Nat), zk_run E (zk_VT E) M_X10_rooms (C_X10_rooms E) P PX K (n + 1) 36 [l0, l1, l2, l3, some (.int y4), l5] r (σ, sz, k, c) = zk_run E (zk_VT E) M_X10_rooms (C_X10_rooms E) P PX K n 39 [l0, l1, l2, zk_kl l3, some (.int (y4 + 1)), l5] r (σ, sz, k, c)) ∧
  (∀ (n : Nat) (l0 l1 l2 l3 l4 l5 : Option Value)  (r : List Value) (σ : zk_S) (sz k c : Nat), zk_run E (zk_VT E) M_X10_rooms (C_X10_rooms E) P PX K (n + 1) 39 [l0, l1, l2, l3, l4, l5] r (σ, sz, k, c) = zk_run E (zk_VT E) M_X10_rooms (C_X10_rooms E) P PX K n 16 [l0, l1, l2, l3, l4, l5] r (σ, sz, k, c)) ∧
  (∀ (n : Nat) (l0 l2 l3 l4 l5 : Option Value) (y1 : Int32) (r : List Value) (σ : zk_S) (sz k c : Nat), zk_run E (zk_VT E) M_X10_rooms (C_X10_rooms E) P PX K (n + 1) 42 [l0, some (.int y1), l2, l3, l4, l5] r (σ, sz, k, c) = zk_run E (zk_VT E) M_X10_rooms (C_X10_rooms E) P PX K n 43 [l0, some (.int y1), l2, l3, l4, l5] (.int y1 :: r) (σ, sz, k, c)) ∧
  (∀ (n : Nat) (l0 l1 l2 l3 l4 l5 : Option Value) (x : Int32)  (σ : zk_S) (sz k c : Nat), zk_run E (zk_VT E) M_X10_rooms (C_X10_rooms E) P PX K (n + 1) 43 [l0, l1, l2, l3, l4, l5] [.int x] (σ, sz, k, c) = (zk_nok (some (.int)) x ∧ P (some (.int x)) σ sz ∧ k ≤ 0 ∧ c ≤ 0)) ∧
  (∀ (n : Nat) (l0 l1 l2 l3 l4 l5 : Option Value) (r : List Value) (w : zk_W zk_S), zk_go E (zk_VT E) M_X10_rooms (C_X10_rooms E) P PX K n 0 [l0, l1, l2, l3, l4, l5] r w = zk_run E (zk_VT E) M_X10_rooms (C_X10_rooms E) P PX K (n + 1) 0 [l0, l1, l2, l3, l4, l5] r w) ∧
  (∀ (n : Nat) (l0 l1 l2 l3 l5 : Option Value) (y4 : Int32) (r : List Value) (σ : zk_S) (sz k c : Nat), zk_go E (zk_VT E) M_X10_rooms (C_X10_rooms E) P PX K n 16 [l0, l1, l2, l3, some (.int y4), l5] r (σ, sz, k, c) = zk_run E (zk_VT E) M_X10_rooms (C_X10_rooms E) P PX K n 18 [l0, l1, l2, l3, some (.int y4), l5] (.int y4 :: r) (σ, sz, k, c)) := ⟨by intros; rfl, by intros; rfl, by intros; rfl, by intros; rfl, by intros; rfl, by intros; rfl, by intros; rfl, by intros; rfl, by intros; rfl, by intros; rfl, by intros; rfl, by intros; rfl, by intros; rfl, by intros; rfl, by intros; rfl, by intros; rfl, by intros; rfl, by intros; rfl, by intros; rfl, by intros; rfl, by intros; rfl, by intros; rfl, by intros; rfl, by intros; rfl, by intros; rfl, by intros; rfl, by intros; rfl⟩
theorem vc_X10_rooms (E : zk_E) : zk_VC E (zk_VT E) M_X10_rooms (C_X10_rooms E) 6 (sp_X10_rooms E) := by
  intro av σ sz P PX h
  obtain ⟨J, N, Q, O, U⟩ := σ
  unfold sp_X10_rooms at h
  split at h
  case h_2 => exact h.elim
  rename_i a0
  obtain ⟨rfl, h⟩ := h
  refine ⟨Nat.le_of_ble_eq_true rfl, fun G hG => ?_⟩
  change G 0 [some (.ref (zk_ad E 0)), none, none, none, none, none] [] ((J, N, Q, O, U), sz, 0, 0)
  try dsimp only at h
  obtain ⟨J1, N1, ⟨hmi, hxr, hrk⟩, h⟩ := h
  have c20 : Int32.ofNat 20 = nI 20 := rfl
  rw [← hxr.2.1.cnt hmi.1] at h
  have h : P (some (.int (nI (cntB (fun r => (Q 2 r).isSome) 20)))) (J, N, Q, O, U) sz := h
  have loop : ∀ m k l5, k + m = 20 → G 16 [some (.ref (zk_ad E 0)), some (.int (nI (cntB (fun r => (Q 2 r).isSome) k))), some (.ref (zk_ad E 2)), some (.int (nI 20)), some (.int (nI k)), l5] [] ((J, N, Q, O, U), sz, 0, 0) := by
    intro m
    induction m with
    | zero =>
      intro k l5 hk
      have c1 : nI 20 ≤ nI k := nI_le (by omega) (by omega)
      have ek : k = 20 := by omega
      subst ek
      (refine hG 900 _ _ _ _ ?_; simp only [r_X10_rooms, zk_kl_none, zk_kl_int, zk_kl_ref, zk_kl_null, zk_kl_long, zk_kl_rf, zk_isr_ref, zk_isr_null, zk_isr_rf9, zk_c1_int, zk_c1_ref, zk_c1_null, zk_c1_rf, zk_psh_some, zk_psh_none, zk_nok_int, zk_nok_bool0, zk_nok_bool1, zk_nok_b, zk_fok_0, zk_fok_1, zk_fok_2, zk_fok_n, zk_fok_rf, zb_f, zb_p, zb_i, zb_a, zb_s, zk_nth_0, zk_nth_s, zk_fld_o, zk_put_o, zk_rv_eq, zk_ri_eq, zk_is_o, List.mem_cons, List.not_mem_nil, or_false, false_or, or_true, true_or, and_true, true_and, not_false_iff, not_true_eq_false, true_implies, false_implies, imp_self, implies_true, forall_const, zk_lit, zk_uj_ap, zk_un_ap, zk_un_un, zk_uj_uj, Nat.reduceEqDiff, eq_self, zk_bq, Bool.true_or, Bool.false_or, Nat.le_refl, Nat.zero_add, Nat.add_zero, Nat.reduceAdd, Nat.reduceLeDiff, Nat.le_zero_eq, and_self, and_false, false_and, ite_true, ite_false, Nat.zero_le, List.length_cons, List.length_nil, Option.some.injEq, forall_eq', reduceCtorEq, c1])
      exact h
    | succ m ih =>
      intro k l5 hk
      have c1 : ¬ nI 20 ≤ nI k := nI_ge (by omega) (by omega)
      have hin : vp_in (nI k) 20 := n_in (by omega) (by decide)
      have hcl : (nI k).toNatClampNeg = k := n_cl (by omega)
      have ih2 := fun l5 => ih (k + 1) l5 (by omega)
      rw [cntB_succ] at ih2
      cases q : Q 2 k with
      | none =>
        rw [if_neg (by rw [q]; decide), Nat.add_zero] at ih2
        (refine hG 900 _ _ _ _ ?_; simp only [r_X10_rooms, zk_kl_none, zk_kl_int, zk_kl_ref, zk_kl_null, zk_kl_long, zk_kl_rf, zk_isr_ref, zk_isr_null, zk_isr_rf9, zk_c1_int, zk_c1_ref, zk_c1_null, zk_c1_rf, zk_psh_some, zk_psh_none, zk_nok_int, zk_nok_bool0, zk_nok_bool1, zk_nok_b, zk_fok_0, zk_fok_1, zk_fok_2, zk_fok_n, zk_fok_rf, zb_f, zb_p, zb_i, zb_a, zb_s, zk_nth_0, zk_nth_s, zk_fld_o, zk_put_o, zk_rv_eq, zk_ri_eq, zk_is_o, List.mem_cons, List.not_mem_nil, or_false, false_or, or_true, true_or, and_true, true_and, not_false_iff, not_true_eq_false, true_implies, false_implies, imp_self, implies_true, forall_const, zk_lit, zk_uj_ap, zk_un_ap, zk_un_un, zk_uj_uj, Nat.reduceEqDiff, eq_self, zk_bq, Bool.true_or, Bool.false_or, Nat.le_refl, Nat.zero_add, Nat.add_zero, Nat.reduceAdd, Nat.reduceLeDiff, Nat.le_zero_eq, and_self, and_false, false_and, ite_true, ite_false, Nat.zero_le, List.length_cons, List.length_nil, Option.some.injEq, forall_eq', reduceCtorEq, c1, hin, hcl, q, n_succ])
        exact ih2 _
      | some b =>
        rw [if_pos (by rw [q]; rfl)] at ih2
        (refine hG 900 _ _ _ _ ?_; simp only [r_X10_rooms, zk_kl_none, zk_kl_int, zk_kl_ref, zk_kl_null, zk_kl_long, zk_kl_rf, zk_isr_ref, zk_isr_null, zk_isr_rf9, zk_c1_int, zk_c1_ref, zk_c1_null, zk_c1_rf, zk_psh_some, zk_psh_none, zk_nok_int, zk_nok_bool0, zk_nok_bool1, zk_nok_b, zk_fok_0, zk_fok_1, zk_fok_2, zk_fok_n, zk_fok_rf, zb_f, zb_p, zb_i, zb_a, zb_s, zk_nth_0, zk_nth_s, zk_fld_o, zk_put_o, zk_rv_eq, zk_ri_eq, zk_is_o, List.mem_cons, List.not_mem_nil, or_false, false_or, or_true, true_or, and_true, true_and, not_false_iff, not_true_eq_false, true_implies, false_implies, imp_self, implies_true, forall_const, zk_lit, zk_uj_ap, zk_un_ap, zk_un_un, zk_uj_uj, Nat.reduceEqDiff, eq_self, zk_bq, Bool.true_or, Bool.false_or, Nat.le_refl, Nat.zero_add, Nat.add_zero, Nat.reduceAdd, Nat.reduceLeDiff, Nat.le_zero_eq, and_self, and_false, false_and, ite_true, ite_false, Nat.zero_le, List.length_cons, List.length_nil, Option.some.injEq, forall_eq', reduceCtorEq, c1, hin, hcl, q, n_succ])
        exact ih2 _
  have l0 := loop 20 0 none (by omega)
  (refine hG 900 _ _ _ _ ?_; simp only [r_X10_rooms, zk_kl_none, zk_kl_int, zk_kl_ref, zk_kl_null, zk_kl_long, zk_kl_rf, zk_isr_ref, zk_isr_null, zk_isr_rf9, zk_c1_int, zk_c1_ref, zk_c1_null, zk_c1_rf, zk_psh_some, zk_psh_none, zk_nok_int, zk_nok_bool0, zk_nok_bool1, zk_nok_b, zk_fok_0, zk_fok_1, zk_fok_2, zk_fok_n, zk_fok_rf, zb_f, zb_p, zb_i, zb_a, zb_s, zk_nth_0, zk_nth_s, zk_fld_o, zk_put_o, zk_rv_eq, zk_ri_eq, zk_is_o, List.mem_cons, List.not_mem_nil, or_false, false_or, or_true, true_or, and_true, true_and, not_false_iff, not_true_eq_false, true_implies, false_implies, imp_self, implies_true, forall_const, zk_lit, zk_uj_ap, zk_un_ap, zk_un_un, zk_uj_uj, Nat.reduceEqDiff, eq_self, zk_bq, Bool.true_or, Bool.false_or, Nat.le_refl, Nat.zero_add, Nat.add_zero, Nat.reduceAdd, Nat.reduceLeDiff, Nat.le_zero_eq, and_self, and_false, false_and, ite_true, ite_false, Nat.zero_le, List.length_cons, List.length_nil, Option.some.injEq, forall_eq', reduceCtorEq, c20])
  exact l0
theorem ct_X10_rooms {l : Launch} (hl : l.stackTraces = false) (E : zk_E) : zk_C l E (zk_VT E) yX10_rooms cX10_rooms 6 (some (.int)) rm_X10_rooms (sp_X10_rooms E) := by
  refine zk_meth (M := M_X10_rooms) (C := C_X10_rooms E) hl (by decide +kernel) rfl (fun _ _ => rfl) (zk_VT_ok E) MO_X10_rooms TO_X10_rooms THo_X10_rooms ?_ (vc_X10_rooms E)
  exact fun p e s m args below meth c X pc n mc ms sp2 h => absurd (zk_lka_mem h) List.not_mem_nil
theorem m_fst_skip {p : Nat → Bool} {n : Nat} : ∀ k, (∀ i, n ≤ i → i < n + k → p i = false) → m_fst p (n + k) = m_fst p n
  | 0, _ => rfl
  | k + 1, h => by
    rw [← Nat.add_assoc, m_fst, m_fst_skip k (fun i a b => h i a (by omega)), h (n + k) (by omega) (by omega)]
    cases m_fst p n <;> rfl
theorem m_fst_cong {p q : Nat → Bool} : ∀ {n}, (∀ i, i < n → p i = q i) → m_fst p n = m_fst q n
  | 0, _ => rfl
  | n + 1, h => by rw [m_fst, m_fst, m_fst_cong (fun i hi => h i (by omega)), h n (by omega)]
def r_at (Q : Nat → Nat → Option Nat) (O : zk_Hp) (fl x y : Int32) (r : Nat) : Bool := match Q 2 r with
  | some a => decide (fI (O a) 1 = fl) && m_unit (fI (O a) 2) (fI (O a) 3) (fI (O a) 4) (fI (O a) 5) x y
  | none => false
theorem r_at_eq {E : zk_E} {sz : Nat} {J N : Nat → Nat → Int32} {Q : Nat → Nat → Option Nat} {O : zk_Hp} (h : XB E sz Q O J N) (hms : MS J) {fl x y : Int32} (hfl : ¬ fl = -2) : m_fst (r_at Q O fl x y) 20 = m_fst (m_atf N fl x y) (m_nr J) := by
  have hr20 := hms.1.2
  have key : ∀ r, r < 20 → r_at Q O fl x y r = (decide (r < m_nr J) && m_atf N fl x y r) := fun r hr => by
    unfold r_at m_atf
    rcases h r hr with ⟨a, h0, h1, -, h2⟩ | ⟨h0, h1⟩
    · rw [h1, decide_eq_true h0.1, Bool.true_and]
      dsimp only
      rw [h2]
      rfl
    · rw [h1]
      dsimp only
      by_cases w : r < m_nr J
      · have : N 23 r = -2 := Decidable.byContradiction fun z => h0 ⟨w, z⟩
        rw [this, decide_eq_false (show ¬ (-2 : Int32) = fl from fun z => hfl z.symm), Bool.false_and, Bool.and_false]
      · rw [decide_eq_false w, Bool.false_and]
  rw [show 20 = m_nr J + (20 - m_nr J) by omega, m_fst_skip (p := r_at Q O fl x y)]
  · exact m_fst_cong (fun k hk => by rw [key k (by omega), decide_eq_true hk, Bool.true_and])
  · intro i h1 h2
    rw [key i (by omega), decide_eq_false (by omega), Bool.false_and]
def d_jn (Q : Nat → Nat → Option Nat) (O : zk_Hp) (b c d : Nat) : Bool := match Q 3 d with
  | some a => x_bt (O a) b c
  | none => false

