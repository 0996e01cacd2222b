/-! the class: rooms, doors, stairs, roomAt, areJoined, meanWay, mostPeople -/
def sp_X10_doors (E : zk_E) : zk_Sp zk_S := fun av σ sz P PX => match av with
  | [.ref a] => a = zk_ad E 0 ∧ ∃ J N, IC E sz σ J N ∧ P (some (.int (m_doorsNow J N))) σ sz
  | _ => False
theorem spe_X10_doors (E : zk_E) (a : Nat) (σ : zk_S) (sz : Nat) (P : zk_P zk_S) (PX : zk_X zk_S) : sp_X10_doors E [.ref a] σ sz P PX = (a = zk_ad E 0 ∧ ∃ J N, IC E sz σ J N ∧ P (some (.int (m_doorsNow J N))) σ sz) := propext Iff.rfl
def C_X10_doors (E : zk_E) : zk_Cl zk_S := zk_lka [(7, 3, 0, 0, zk_rv (zk_VT E) (fun ci => Nat.beq ci 4) (sp_X5_countExits E))]
theorem r_X10_doors (E : zk_E) (P : zk_P zk_S) (PX : zk_X zk_S) (K : Nat → zk_L → List Value → zk_W zk_S → Prop) : (∀ (n : Nat)  (y0 : Value) (r : List Value) (σ : zk_S) (sz k c : Nat), zk_run E (zk_VT E) M_X10_doors (C_X10_doors E) P PX K (n + 1) 0 [some y0] r (σ, sz, k, c) = (zk_isr y0 ∧ zk_run E (zk_VT E) M_X10_doors (C_X10_doors E) P PX K n 1 [some y0] (y0 :: r) (σ, sz, k, c))) ∧
  (∀ (n : Nat) (l0 : Option Value) (a : Nat) (r : List Value) (σ : zk_S) (sz k c : Nat), zk_run E (zk_VT E) M_X10_doors (C_X10_doors E) P PX K (n + 1) 1 [l0] (.ref a :: r) (σ, sz, k, c) = zk_fld (zk_view E σ a) [9] 0 (fun v => zk_run E (zk_VT E) M_X10_doors (C_X10_doors E) P PX K n 4 [l0] (v :: r) (σ, sz, k, c))) ∧
  (∀ (n : Nat) (l0 : Option Value)  (r : List Value) (σ : zk_S) (sz k c : Nat), zk_run E (zk_VT E) M_X10_doors (C_X10_doors E) P PX K (n + 1) 4 [l0] r (σ, sz, k, c) = zk_run E (zk_VT E) M_X10_doors (C_X10_doors E) P PX K n 5 [l0] (.int (0) :: r) (σ, sz, k, c)) ∧
  (∀ (n : Nat) (l0 : Option Value)  (r : List Value) (σ : zk_S) (sz k c : Nat), zk_run E (zk_VT E) M_X10_doors (C_X10_doors E) P PX K (n + 1) 5 [l0] r (σ, sz, k, c) = zk_run E (zk_VT E) M_X10_doors (C_X10_doors E) P PX K n 7 [l0] (.int (40) :: r) (σ, sz, k, c)) ∧
  (∀ (n : Nat) (l0 : Option Value) (v0 : Value) (v1 : Value) (v2 : Value)  (σ : zk_S) (sz k c : Nat), zk_run E (zk_VT E) M_X10_doors (C_X10_doors E) P PX K (n + 1) 7 [l0] [v0, v1, v2] (σ, sz, k, c) = (k + 0 ≤ 0 ∧ c + 0 ≤ 0 ∧ (zk_rv (zk_VT E) (fun ci => Nat.beq ci 4) (sp_X5_countExits E)) [v2, v1, v0] σ sz (fun v s2 z2 => zk_run E (zk_VT E) M_X10_doors (C_X10_doors E) P PX K n 10 [l0] (zk_psh v []) (s2, z2, k + 0, c + 0)) (fun X s2 z2 => PX X s2 z2))) ∧
  (∀ (n : Nat) (l0 : Option Value) (x : Int32)  (σ : zk_S) (sz k c : Nat), zk_run E (zk_VT E) M_X10_doors (C_X10_doors E) P PX K (n + 1) 10 [l0] [.int x] (σ, sz, k, c) = (zk_nok (some (.int)) x ∧ P (some (.int x)) σ sz ∧ k ≤ 0 ∧ c ≤ 0)) ∧
  (∀ (n : Nat) (l0 : Option Value) (r : List Value) (w : zk_W zk_S), zk_go E (zk_VT E) M_X10_doors (C_X10_doors E) P PX K n 0 [l0] r w = zk_run E (zk_VT E) M_X10_doors (C_X10_doors E) P PX K (n + 1) 0 [l0] r w) := ⟨by intros; rfl, by intros; rfl, by intros; rfl, by intros; rfl, by intros; rfl, by intros; rfl, by intros; rfl⟩
theorem vc_X10_doors (E : zk_E) : zk_VC E (zk_VT E) M_X10_doors (C_X10_doors E) 1 (sp_X10_doors E) := by
  intro av σ sz P PX h
  obtain ⟨J, N, Q, O, U⟩ := σ
  unfold sp_X10_doors at h
  split at h
  case h_2 => exact h.elim
  rename_i a0
  obtain ⟨rfl, h⟩ := h
  refine ⟨Nat.le_of_ble_eq_true rfl, fun G hG => ?_⟩
  change G 0 [some (.ref (zk_ad E 0))] [] ((J, N, Q, O, U), sz, 0, 0)
  try dsimp only at h
  obtain ⟨J1, N1, ⟨hmi, hxr, hrk⟩, h⟩ := h
  have e := hxr.2.2.1.cnt hmi.1
  (refine hG 900 _ _ _ _ ?_; simp only [r_X10_doors, zk_kl_none, zk_kl_int, zk_kl_ref, zk_kl_null, zk_kl_long, zk_kl_rf, zk_isr_ref, zk_isr_null, zk_isr_rf9, zk_c1_int, zk_c1_ref, zk_c1_null, zk_c1_rf, zk_psh_some, zk_psh_none, zk_nok_int, zk_nok_bool0, zk_nok_bool1, zk_nok_b, zk_fok_0, zk_fok_1, zk_fok_2, zk_fok_n, zk_fok_rf, zb_f, zb_p, zb_i, zb_a, zb_s, zk_nth_0, zk_nth_s, zk_fld_o, zk_put_o, zk_rv_eq, zk_ri_eq, zk_is_o, List.mem_cons, List.not_mem_nil, or_false, false_or, or_true, true_or, and_true, true_and, not_false_iff, not_true_eq_false, true_implies, false_implies, imp_self, implies_true, forall_const, zk_lit, zk_uj_ap, zk_un_ap, zk_un_un, zk_uj_uj, Nat.reduceEqDiff, eq_self, zk_bq, Bool.true_or, Bool.false_or, Nat.le_refl, Nat.zero_add, Nat.add_zero, Nat.reduceAdd, Nat.reduceLeDiff, Nat.le_zero_eq, and_self, and_false, false_and, ite_true, ite_false, Nat.zero_le, List.length_cons, List.length_nil, Option.some.injEq, forall_eq', reduceCtorEq, spe_X5_countExits])
  refine ⟨0, 40, by decide, rfl, rfl, ?_⟩
  rw [← e] at h
  exact h
theorem ct_X10_doors {l : Launch} (hl : l.stackTraces = false) (E : zk_E) : zk_C l E (zk_VT E) yX10_doors cX10_doors 1 (some (.int)) rm_X10_doors (sp_X10_doors E) := by
  refine zk_meth (M := M_X10_doors) (C := C_X10_doors E) hl (by decide +kernel) rfl (fun _ _ => rfl) (zk_VT_ok E) MO_X10_doors TO_X10_doors THo_X10_doors ?_ (vc_X10_doors E)
  exact fun p e s m args below meth c X pc n mc ms sp2 h => by
    have h2 := zk_lka_mem h
    simp only [List.mem_cons, List.not_mem_nil, or_false, Prod.mk.injEq] at h2
    rcases h2 with ⟨rfl, rfl, rfl, rfl, rfl⟩
    exact zk_coV (idx := 174) X (ct_X5_countExits hl E) (List.forall_mem_cons.mpr ⟨zk_wi 191 (by decide +kernel) rfl, List.forall_mem_cons.mpr ⟨zk_wi 192 (by decide +kernel) rfl, List.forall_mem_cons.mpr ⟨zk_wi 193 (by decide +kernel) rfl, List.forall_mem_cons.mpr ⟨zk_wi 2 (by decide +kernel) rfl, List.forall_mem_cons.mpr ⟨zk_wi 194 (by decide +kernel) rfl, fun _ h => absurd h List.not_mem_nil⟩⟩⟩⟩⟩) (fun ci h => by
      have h := Nat.eq_of_beq_eq_true h
      subst h
      exact ⟨_, _, rfl⟩) (by decide +kernel) ⟨by decide, by decide, by decide +kernel⟩ ⟨by decide, by decide⟩
def sp_X10_stairs (E : zk_E) : zk_Sp zk_S := fun av σ sz P PX => match av with
  | [.ref a] => a = zk_ad E 0 ∧ ∃ J N, IC E sz σ J N ∧ P (some (.int (m_stairsNow J N))) σ sz
  | _ => False
theorem spe_X10_stairs (E : zk_E) (a : Nat) (σ : zk_S) (sz : Nat) (P : zk_P zk_S) (PX : zk_X zk_S) : sp_X10_stairs E [.ref a] σ sz P PX = (a = zk_ad E 0 ∧ ∃ J N, IC E sz σ J N ∧ P (some (.int (m_stairsNow J N))) σ sz) := propext Iff.rfl
def C_X10_stairs (E : zk_E) : zk_Cl zk_S := zk_lka [(8, 3, 0, 0, zk_rv (zk_VT E) (fun ci => Nat.beq ci 4) (sp_X5_countExits E))]
theorem r_X10_stairs (E : zk_E) (P : zk_P zk_S) (PX : zk_X zk_S) (K : Nat → zk_L → List Value → zk_W zk_S → Prop) : (∀ (n : Nat)  (y0 : Value) (r : List Value) (σ : zk_S) (sz k c : Nat), zk_run E (zk_VT E) M_X10_stairs (C_X10_stairs E) P PX K (n + 1) 0 [some y0] r (σ, sz, k, c) = (zk_isr y0 ∧ zk_run E (zk_VT E) M_X10_stairs (C_X10_stairs E) P PX K n 1 [some y0] (y0 :: r) (σ, sz, k, c))) ∧
  (∀ (n : Nat) (l0 : Option Value) (a : Nat) (r : List Value) (σ : zk_S) (sz k c : Nat), zk_run E (zk_VT E) M_X10_stairs (C_X10_stairs E) P PX K (n + 1) 1 [l0] (.ref a :: r) (σ, sz, k, c) = zk_fld (zk_view E σ a) [9] 0 (fun v => zk_run E (zk_VT E) M_X10_stairs (C_X10_stairs E) P PX K n 4 [l0] (v :: r) (σ, sz, k, c))) ∧
  (∀ (n : Nat) (l0 : Option Value)  (r : List Value) (σ : zk_S) (sz k c : Nat), zk_run E (zk_VT E) M_X10_stairs (C_X10_stairs E) P PX K (n + 1) 4 [l0] r (σ, sz, k, c) = zk_run E (zk_VT E) M_X10_stairs (C_X10_stairs E) P PX K n 6 [l0] (.int (40) :: r) (σ, sz, k, c)) ∧
  (∀ (n : Nat) (l0 : Option Value)  (r : List Value) (σ : zk_S) (sz k c : Nat), zk_run E (zk_VT E) M_X10_stairs (C_X10_stairs E) P PX K (n + 1) 6 [l0] r (σ, sz, k, c) = zk_run E (zk_VT E) M_X10_stairs (C_X10_stairs E) P PX K n 8 [l0] (.int (50) :: r) (σ, sz, k, c)) ∧
  (∀ (n : Nat) (l0 : Option Value) (v0 : Value) (v1 : Value) (v2 : Value)  (σ : zk_S) (sz k c : Nat), zk_run E (zk_VT E) M_X10_stairs (C_X10_stairs E) P PX K (n + 1) 8 [l0] [v0, v1, v2] (σ, sz, k, c) = (k + 0 ≤ 0 ∧ c + 0 ≤ 0 ∧ (zk_rv (zk_VT E) (fun ci => Nat.beq ci 4) (sp_X5_countExits E)) [v2, v1, v0] σ sz (fun v s2 z2 => zk_run E (zk_VT E) M_X10_stairs (C_X10_stairs E) P PX K n 11 [l0] (zk_psh v []) (s2, z2, k + 0, c + 0)) (fun X s2 z2 => PX X s2 z2))) ∧
  (∀ (n : Nat) (l0 : Option Value) (x : Int32)  (σ : zk_S) (sz k c : Nat), zk_run E (zk_VT E) M_X10_stairs (C_X10_stairs E) P PX K (n + 1) 11 [l0] [.int x] (σ, sz, k, c) = (zk_nok (some (.int)) x ∧ P (some (.int x)) σ sz ∧ k ≤ 0 ∧ c ≤ 0)) ∧
  (∀ (n : Nat) (l0 : Option Value) (r : List Value) (w : zk_W zk_S), zk_go E (zk_VT E) M_X10_stairs (C_X10_stairs E) P PX K n 0 [l0] r w = zk_run E (zk_VT E) M_X10_stairs (C_X10_stairs E) P PX K (n + 1) 0 [l0] r w) := ⟨by intros; rfl, by intros; rfl, by intros; rfl, by intros; rfl, by intros; rfl, by intros; rfl, by intros; rfl⟩
theorem vc_X10_stairs (E : zk_E) : zk_VC E (zk_VT E) M_X10_stairs (C_X10_stairs E) 1 (sp_X10_stairs E) := by
  intro av σ sz P PX h
  obtain ⟨J, N, Q, O, U⟩ := σ
  unfold sp_X10_stairs at h
  split at h
  case h_2 => exact h.elim
  rename_i a0
  obtain ⟨rfl, h⟩ := h
  refine ⟨Nat.le_of_ble_eq_true rfl, fun G hG => ?_⟩
  change G 0 [some (.ref (zk_ad E 0))] [] ((J, N, Q, O, U), sz, 0, 0)
  try dsimp only at h
  obtain ⟨J1, N1, ⟨hmi, hxr, hrk⟩, h⟩ := h
  have e := hxr.2.2.2.2.1.cnt hmi.1
  (refine hG 900 _ _ _ _ ?_; simp only [r_X10_stairs, zk_kl_none, zk_kl_int, zk_kl_ref, zk_kl_null, zk_kl_long, zk_kl_rf, zk_isr_ref, zk_isr_null, zk_isr_rf9, zk_c1_int, zk_c1_ref, zk_c1_null, zk_c1_rf, zk_psh_some, zk_psh_none, zk_nok_int, zk_nok_bool0, zk_nok_bool1, zk_nok_b, zk_fok_0, zk_fok_1, zk_fok_2, zk_fok_n, zk_fok_rf, zb_f, zb_p, zb_i, zb_a, zb_s, zk_nth_0, zk_nth_s, zk_fld_o, zk_put_o, zk_rv_eq, zk_ri_eq, zk_is_o, List.mem_cons, List.not_mem_nil, or_false, false_or, or_true, true_or, and_true, true_and, not_false_iff, not_true_eq_false, true_implies, false_implies, imp_self, implies_true, forall_const, zk_lit, zk_uj_ap, zk_un_ap, zk_un_un, zk_uj_uj, Nat.reduceEqDiff, eq_self, zk_bq, Bool.true_or, Bool.false_or, Nat.le_refl, Nat.zero_add, Nat.add_zero, Nat.reduceAdd, Nat.reduceLeDiff, Nat.le_zero_eq, and_self, and_false, false_and, ite_true, ite_false, Nat.zero_le, List.length_cons, List.length_nil, Option.some.injEq, forall_eq', reduceCtorEq, spe_X5_countExits])
  refine ⟨40, 10, by decide, rfl, rfl, ?_⟩
  rw [← e] at h
  exact h
theorem ct_X10_stairs {l : Launch} (hl : l.stackTraces = false) (E : zk_E) : zk_C l E (zk_VT E) yX10_stairs cX10_stairs 1 (some (.int)) rm_X10_stairs (sp_X10_stairs E) := by
  refine zk_meth (M := M_X10_stairs) (C := C_X10_stairs E) hl (by decide +kernel) rfl (fun _ _ => rfl) (zk_VT_ok E) MO_X10_stairs TO_X10_stairs THo_X10_stairs ?_ (vc_X10_stairs E)
  exact fun p e s m args below meth c X pc n mc ms sp2 h => by
    have h2 := zk_lka_mem h
    simp only [List.mem_cons, List.not_mem_nil, or_false, Prod.mk.injEq] at h2
    rcases h2 with ⟨rfl, rfl, rfl, rfl, rfl⟩
    exact zk_coV (idx := 174) X (ct_X5_countExits hl E) (List.forall_mem_cons.mpr ⟨zk_wi 191 (by decide +kernel) rfl, List.forall_mem_cons.mpr ⟨zk_wi 192 (by decide +kernel) rfl, List.forall_mem_cons.mpr ⟨zk_wi 193 (by decide +kernel) rfl, List.forall_mem_cons.mpr ⟨zk_wi 2 (by decide +kernel) rfl, List.forall_mem_cons.mpr ⟨zk_wi 194 (by decide +kernel) rfl, fun _ h => absurd h List.not_mem_nil⟩⟩⟩⟩⟩) (fun ci h => by
      have h := Nat.eq_of_beq_eq_true h
      subst h
      exact ⟨_, _, rfl⟩) (by decide +kernel) ⟨by decide, by decide, by decide +kernel⟩ ⟨by decide, by decide⟩
def sp_X10_rooms (E : zk_E) : zk_Sp zk_S := fun av σ sz P PX => match av with
  | [.ref a] => a = zk_ad E 0 ∧ ∃ J N, IC E sz σ J N ∧ P (some (.int (m_roomsNow J N))) σ sz
  | _ => False
theorem spe_X10_rooms (E : zk_E) (a : Nat) (σ : zk_S) (sz : Nat) (P : zk_P zk_S) (PX : zk_X zk_S) : sp_X10_rooms E [.ref a] σ sz P PX = (a = zk_ad E 0 ∧ ∃ J N, IC E sz σ J N ∧ P (some (.int (m_roomsNow J N))) σ sz) := propext Iff.rfl
def C_X10_rooms (E : zk_E) : zk_Cl zk_S := zk_lka []
theorem r_X10_rooms (E : zk_E) (P : zk_P zk_S) (PX : zk_X zk_S) (K : Nat → zk_L → List Value → zk_W zk_S → Prop) : (∀ (n : Nat) (l0 l1 l2 l3 l4 l5 : Option Value)  (r : List Value) (σ : zk_S) (sz k c : Nat), zk_run E (zk_VT E) M_X10_rooms (C_X10_rooms E) P PX K (n + 1) 0 [l0, l1, l2, l3, l4, l5] r (σ, sz, k, c) = zk_run E (zk_VT E) M_X10_rooms (C_X10_rooms E) P PX K n 1 [l0, l1, l2, l3, l4, l5] (.int (0) :: r) (σ, sz, k, c)) ∧
  (∀ (n : Nat) (l0 l1 l2 l3 l4 l5 : Option Value) (x : Int32) (r : List Value) (σ : zk_S) (sz k c : Nat), zk_run E (zk_VT E) M_X10_rooms (C_X10_rooms E) P PX K (n + 1) 1 [l0, l1, l2, l3, l4, l5] (.int x :: r) (σ, sz, k, c) = zk_run E (zk_VT E) M_X10_rooms (C_X10_rooms E) P PX K n 2 [zk_kl l0, some (.int x), l2, l3, l4, l5] r (σ, sz, k, c)) ∧
  (∀ (n : Nat) (l1 l2 l3 l4 l5 : Option Value) (y0 : Value) (r : List Value) (σ : zk_S) (sz k c : Nat), zk_run E (zk_VT E) M_X10_rooms (C_X10_rooms E) P PX K (n + 1) 2 [some y0, l1, l2, l3, l4, l5] r (σ, sz, k, c) = (zk_isr y0 ∧ zk_run E (zk_VT E) M_X10_rooms (C_X10_rooms E) P PX K n 3 [some y0, l1, l2, l3, l4, l5] (y0 :: r) (σ, sz, k, c))) ∧
  (∀ (n : Nat) (l0 l1 l2 l3 l4 l5 : Option Value) (a : Nat) (r : List Value) (σ : zk_S) (sz k c : Nat), zk_run E (zk_VT E) M_X10_rooms (C_X10_rooms E) P PX K (n + 1) 3 [l0, l1, l2, l3, l4, l5] (.ref a :: r) (σ, sz, k, c) = zk_fld (zk_view E σ a) [9] 0 (fun v => zk_run E (zk_VT E) M_X10_rooms (C_X10_rooms E) P PX K n 6 [l0, l1, l2, l3, l4, l5] (v :: r) (σ, sz, k, c))) ∧
  (∀ (n : Nat) (l0 l1 l2 l3 l4 l5 : Option Value) (a : Nat) (r : List Value) (σ : zk_S) (sz k c : Nat), zk_run E (zk_VT E) M_X10_rooms (C_X10_rooms E) P PX K (n + 1) 6 [l0, l1, l2, l3, l4, l5] (.ref a :: r) (σ, sz, k, c) = zk_fld (zk_view E σ a) [4] 0 (fun v => zk_run E (zk_VT E) M_X10_rooms (C_X10_rooms E) P PX K n 9 [l0, l1, l2, l3, l4, l5] (v :: r) (σ, sz, k, c))) ∧
  (∀ (n : Nat) (l0 l1 l2 l3 l4 l5 : Option Value) (x : Value) (r : List Value) (σ : zk_S) (sz k c : Nat), zk_run E (zk_VT E) M_X10_rooms (C_X10_rooms E) P PX K (n + 1) 9 [l0, l1, l2, l3, l4, l5] (x :: r) (σ, sz, k, c) = (zk_isr x ∧ zk_run E (zk_VT E) M_X10_rooms (C_X10_rooms E) P PX K n 10 [l0, zk_kl l1, some (x), l3, l4, l5] r (σ, sz, k, c))) ∧
  (∀ (n : Nat) (l0 l1 l3 l4 l5 : Option Value) (y2 : Value) (r : List Value) (σ : zk_S) (sz k c : Nat), zk_run E (zk_VT E) M_X10_rooms (C_X10_rooms E) P PX K (n + 1) 10 [l0, l1, some y2, l3, l4, l5] r (σ, sz, k, c) = (zk_isr y2 ∧ zk_run E (zk_VT E) M_X10_rooms (C_X10_rooms E) P PX K n 11 [l0, l1, some y2, l3, l4, l5] (y2 :: r) (σ, sz, k, c))) ∧
  (∀ (n : Nat) (l0 l1 l2 l3 l4 l5 : Option Value) (a : Nat) (r : List Value) (σ : zk_S) (sz k c : Nat), zk_run E (zk_VT E) M_X10_rooms (C_X10_rooms E) P PX K (n + 1) 11 [l0, l1, l2, l3, l4, l5] (.ref a :: r) (σ, sz, k, c) = zk_lenq E (zk_view E σ a) (fun x => zk_run E (zk_VT E) M_X10_rooms (C_X10_rooms E) P PX K n 12 [l0, l1, l2, l3, l4, l5] (.int x :: r) (σ, sz, k, c))) ∧
  (∀ (n : Nat) (l0 l1 l2 l3 l4 l5 : Option Value) (x : Int32) (r : List Value) (σ : zk_S) (sz k c : Nat), zk_run E (zk_VT E) M_X10_rooms (C_X10_rooms E) P PX K (n + 1) 12 [l0, l1, l2, l3, l4, l5] (.int x :: r) (σ, sz, k, c) = zk_run E (zk_VT E) M_X10_rooms (C_X10_rooms E) P PX K n 13 [l0, l1, zk_kl l2, some (.int x), l4, l5] r (σ, sz, k, c)) ∧
  (∀ (n : Nat) (l0 l1 l2 l3 l4 l5 : Option Value)  (r : List Value) (σ : zk_S) (sz k c : Nat), zk_run E (zk_VT E) M_X10_rooms (C_X10_rooms E) P PX K (n + 1) 13 [l0, l1, l2, l3, l4, l5] r (σ, sz, k, c) = zk_run E (zk_VT E) M_X10_rooms (C_X10_rooms E) P PX K n 14 [l0, l1, l2, l3, l4, l5] (.int (0) :: r) (σ, sz, k, c)) ∧
  (∀ (n : Nat) (l0 l1 l2 l3 l4 l5 : Option Value) (x : Int32) (r : List Value) (σ : zk_S) (sz k c : Nat), zk_run E (zk_VT E) M_X10_rooms (C_X10_rooms E) P PX K (n + 1) 14 [l0, l1, l2, l3, l4, l5] (.int x :: r) (σ, sz, k, c) = zk_run E (zk_VT E) M_X10_rooms (C_X10_rooms E) P PX K n 16 [l0, l1, l2, zk_kl l3, some (.int x), l5] r (σ, sz, k, c)) ∧
  (∀ (n : Nat) (l0 l1 l2 l3 l4 l5 : Option Value)  (r : List Value) (σ : zk_S) (sz k c : Nat), zk_run E (zk_VT E) M_X10_rooms (C_X10_rooms E) P PX K (n + 1) 16 [l0, l1, l2, l3, l4, l5] r (σ, sz, k, c) = K 16 [l0, l1, l2, l3, l4, l5] r (σ, sz, k, c)) ∧
  (∀ (n : Nat) (l0 l1 l2 l4 l5 : Option Value) (y3 : Int32) (r : List Value) (σ : zk_S) (sz k c : Nat), zk_run E (zk_VT E) M_X10_rooms (C_X10_rooms E) P PX K (n + 1) 18 [l0, l1, l2, some (.int y3), l4, l5] r (σ, sz, k, c) = zk_run E (zk_VT E) M_X10_rooms (C_X10_rooms E) P PX K n 19 [l0, l1, l2, some (.int y3), l4, l5] (.int y3 :: r) (σ, sz, k, c)) ∧
  (∀ (n : Nat) (l0 l1 l2 l3 l4 l5 : Option Value) (x y : Int32) (r : List Value) (σ : zk_S) (sz k c : Nat), zk_run E (zk_VT E) M_X10_rooms (C_X10_rooms E) P PX K (n + 1) 19 [l0, l1, l2, l3, l4, l5] (.int y :: .int x :: r) (σ, sz, k, c) = ((y ≤ x → zk_run E (zk_VT E) M_X10_rooms (C_X10_rooms E) P PX K n 42 [l0, l1, l2, l3, l4, l5] r (σ, sz, k, c)) ∧ (¬ (y ≤ x) → zk_run E (zk_VT E) M_X10_rooms (C_X10_rooms E) P PX K n 22 [l0, l1, l2, l3, l4, l5] r (σ, sz, k, c)))) ∧
  (∀ (n : Nat) (l0 l1 l3 l4 l5 : Option Value) (y2 : Value) (r : List Value) (σ : zk_S) (sz k c : Nat), zk_run E (zk_VT E) M_X10_rooms (C_X10_rooms E) P PX K (n + 1) 22 [l0, l1, some y2, l3, l4, l5] r (σ, sz, k, c) = (zk_isr y2 ∧ zk_run E (zk_VT E) M_X10_rooms (C_X10_rooms E) P PX K n 23 [l0, l1, some y2, l3, l4, l5] (y2 :: r) (σ, sz, k, c))) ∧
  (∀ (n : Nat) (l0 l1 l2 l3 l5 : Option Value) (y4 : Int32) (r : List Value) (σ : zk_S) (sz k c : Nat), zk_run E (zk_VT E) M_X10_rooms (C_X10_rooms E) P PX K (n + 1) 23 [l0, l1, l2, l3, some (.int y4), l5] r (σ, sz, k, c) = zk_run E (zk_VT E) M_X10_rooms (C_X10_rooms E) P PX K n 25 [l0, l1, l2, l3, some (.int y4), l5] (.int y4 :: r) (σ, sz, k, c)) ∧
  (∀ (n : Nat) (l0 l1 l2 l3 l4 l5 : Option Value) (a : Nat) (i : Int32) (r : List Value) (σ : zk_S) (sz k c : Nat), zk_run E (zk_VT E) M_X10_rooms (C_X10_rooms E) P PX K (n + 1) 25 [l0, l1, l2, l3, l4, l5] (.int i :: .ref a :: r) (σ, sz, k, c) = zk_qld (zk_view E σ a) i [zk_ar E 3, zk_ar E 4, zk_ar E 5, zk_ar E 6] (fun x => (x = none → zk_run E (zk_VT E) M_X10_rooms (C_X10_rooms E) P PX K n 26 [l0, l1, l2, l3, l4, l5] (.null :: r) (σ, sz, k, c)) ∧ ∀ b, x = some b → zk_run E (zk_VT E) M_X10_rooms (C_X10_rooms E) P PX K n 26 [l0, l1, l2, l3, l4, l5] (.ref b :: r) (σ, sz, k, c))) ∧
  (∀ (n : Nat) (l0 l1 l2 l3 l4 l5 : Option Value) (x : Value) (r : List Value) (σ : zk_S) (sz k c : Nat), zk_run E (zk_VT E) M_X10_rooms (C_X10_rooms E) P PX K (n + 1) 26 [l0, l1, l2, l3, l4, l5] (x :: r) (σ, sz, k, c) = (zk_isr x ∧ zk_run E (zk_VT E) M_X10_rooms (C_X10_rooms E) P PX K n 28 [l0, l1, l2, l3, zk_kl l4, some (x)] r (σ, sz, k, c))) ∧
  (∀ (n : Nat) (l0 l1 l2 l3 l4 : Option Value) (y5 : Value) (r : List Value) (σ : zk_S) (sz k c : Nat), zk_run E (zk_VT E) M_X10_rooms (C_X10_rooms E) P PX K (n + 1) 28 [l0, l1, l2, l3, l4, some y5] r (σ, sz, k, c) = (zk_isr y5 ∧ zk_run E (zk_VT E) M_X10_rooms (C_X10_rooms E) P PX K n 30 [l0, l1, l2, l3, l4, some y5] (y5 :: r) (σ, sz, k, c))) ∧
  (∀ (n : Nat) (l0 l1 l2 l3 l4 l5 : Option Value) (v : Value) (r : List Value) (σ : zk_S) (sz k c : Nat), zk_run E (zk_VT E) M_X10_rooms (C_X10_rooms E) P PX K (n + 1) 30 [l0, l1, l2, l3, l4, l5] (v :: r) (σ, sz, k, c) = (zk_isr v ∧ (v = .null → zk_run E (zk_VT E) M_X10_rooms (C_X10_rooms E) P PX K n 36 [l0, l1, l2, l3, l4, l5] r (σ, sz, k, c)) ∧ (¬ (v = .null) → zk_run E (zk_VT E) M_X10_rooms (C_X10_rooms E) P PX K n 33 [l0, l1, l2, l3, l4, l5] r (σ, sz, k, c)))) ∧
  (∀ (n : Nat) (l0 l2 l3 l4 l5 : Option Value) (y1 : Int32) (r : List Value) (σ : zk_S) (sz k c : Nat), zk_run E (zk_VT E) M_X10_rooms (C_X10_rooms E) P PX K (n + 1) 33 [l0, some (.int y1), l2, l3, l4, l5] r (σ, sz, k, c) = zk_run E (zk_VT E) M_X10_rooms (C_X10_rooms E) P PX K n 36 [zk_kl l0, some (.int (y1 + 1)), l2, l3, l4, l5] r (σ, sz, k, c)) ∧
  (∀ (n : Nat) (l0 l1 l2 l3 l5 : Option Value) (y4 : Int32) (r : List Value) (σ : zk_S) (sz k c : Nat), zk_run E (zk_VT E) M_X10_rooms (C_X10_rooms E) P PX K (n + 1) 36 [l0, l1, l2, l3, some (.int y4), l5] r (σ, sz, k, c) = zk_run E (zk_VT E) M_X10_rooms (C_X10_rooms E) P PX K n 39 [l0, l1, l2, zk_kl l3, some (.int (y4 + 1)), l5] r (σ, sz, k, c)) ∧
  (∀ (n : Nat) (l0 l1 l2 l3 l4 l5 : Option Value)  (r : List Value) (σ : zk_S) (sz k c : Nat), zk_run E (zk_VT E) M_X10_rooms (C_X10_rooms E) P PX K (n + 1) 39 [l0, l1, l2, l3, l4, l5] r (σ, sz, k, c) = zk_run E (zk_VT E) M_X10_rooms (C_X10_rooms E) P PX K n 16 [l0, l1, l2, l3, l4, l5] r (σ, sz, k, c)) ∧
  (∀ (n : Nat) (l0 l2 l3 l4 l5 : Option Value) (y1 : Int32) (r : List Value) (σ : zk_S) (sz k c : Nat), zk_run E (zk_VT E) M_X10_rooms (C_X10_rooms E) P PX K (n + 1) 42 [l0, some (.int y1), l2, l3, l4, l5] r (σ, sz, k, c) = zk_run E (zk_VT E) M_X10_rooms (C_X10_rooms E) P PX K n 43 [l0, some (.int y1), l2, l3, l4, l5] (.int y1 :: r) (σ, sz, k, c)) ∧
  (∀ (n : Nat) (l0 l1 l2 l3 l4 l5 : Option Value) (x : Int32)  (σ : zk_S) (sz k c : Nat), zk_run E (zk_VT E) M_X10_rooms (C_X10_rooms E) P PX K (n + 1) 43 [l0, l1, l2, l3, l4, l5] [.int x] (σ, sz, k, c) = (zk_nok (some (.int)) x ∧ P (some (.int x)) σ sz ∧ k ≤ 0 ∧ c ≤ 0)) ∧
  (∀ (n : Nat) (l0 l1 l2 l3 l4 l5 : Option Value) (r : List Value) (w : zk_W zk_S), zk_go E (zk_VT E) M_X10_rooms (C_X10_rooms E) P PX K n 0 [l0, l1, l2, l3, l4, l5] r w = zk_run E (zk_VT E) M_X10_rooms (C_X10_rooms E) P PX K (n + 1) 0 [l0, l1, l2, l3, l4, l5] r w) ∧
  (∀ (n : Nat) (l0 l1 l2 l3 l5 : Option Value) (y4 : Int32) (r : List Value) (σ : zk_S) (sz k c : Nat), zk_go E (zk_VT E) M_X10_rooms (C_X10_rooms E) P PX K n 16 [l0, l1, l2, l3, some (.int y4), l5] r (σ, sz, k, c) = zk_run E (zk_VT E) M_X10_rooms (C_X10_rooms E) P PX K n 18 [l0, l1, l2, l3, some (.int y4), l5] (.int y4 :: r) (σ, sz, k, c)) := ⟨by intros; rfl, by intros; rfl, by intros; rfl, by intros; rfl, by intros; rfl, by intros; rfl, by intros; rfl, by intros; rfl, by intros; rfl, by intros; rfl, by intros; rfl, by intros; rfl, by intros; rfl, by intros; rfl, by intros; rfl, by intros; rfl, by intros; rfl, by intros; rfl, by intros; rfl, by intros; rfl, by intros; rfl, by intros; rfl, by intros; rfl, by intros; rfl, by intros; rfl, by intros; rfl, by intros; rfl⟩
theorem vc_X10_rooms (E : zk_E) : zk_VC E (zk_VT E) M_X10_rooms (C_X10_rooms E) 6 (sp_X10_rooms E) := by
  intro av σ sz P PX h
  obtain ⟨J, N, Q, O, U⟩ := σ
  unfold sp_X10_rooms at h
  split at h
  case h_2 => exact h.elim
  rename_i a0
  obtain ⟨rfl, h⟩ := h
  refine ⟨Nat.le_of_ble_eq_true rfl, fun G hG => ?_⟩
  change G 0 [some (.ref (zk_ad E 0)), none, none, none, none, none] [] ((J, N, Q, O, U), sz, 0, 0)
  try dsimp only at h
  obtain ⟨J1, N1, ⟨hmi, hxr, hrk⟩, h⟩ := h
  have c20 : Int32.ofNat 20 = nI 20 := rfl
  rw [← hxr.2.1.cnt hmi.1] at h
  have h : P (some (.int (nI (cntB (fun r => (Q 2 r).isSome) 20)))) (J, N, Q, O, U) sz := h
  have loop : ∀ m k l5, k + m = 20 → G 16 [some (.ref (zk_ad E 0)), some (.int (nI (cntB (fun r => (Q 2 r).isSome) k))), some (.ref (zk_ad E 2)), some (.int (nI 20)), some (.int (nI k)), l5] [] ((J, N, Q, O, U), sz, 0, 0) := by
    intro m
    induction m with
    | zero =>
      intro k l5 hk
      have c1 : nI 20 ≤ nI k := nI_le (by omega) (by omega)
      have ek : k = 20 := by omega
      subst ek
      (refine hG 900 _ _ _ _ ?_; simp only [r_X10_rooms, zk_kl_none, zk_kl_int, zk_kl_ref, zk_kl_null, zk_kl_long, zk_kl_rf, zk_isr_ref, zk_isr_null, zk_isr_rf9, zk_c1_int, zk_c1_ref, zk_c1_null, zk_c1_rf, zk_psh_some, zk_psh_none, zk_nok_int, zk_nok_bool0, zk_nok_bool1, zk_nok_b, zk_fok_0, zk_fok_1, zk_fok_2, zk_fok_n, zk_fok_rf, zb_f, zb_p, zb_i, zb_a, zb_s, zk_nth_0, zk_nth_s, zk_fld_o, zk_put_o, zk_rv_eq, zk_ri_eq, zk_is_o, List.mem_cons, List.not_mem_nil, or_false, false_or, or_true, true_or, and_true, true_and, not_false_iff, not_true_eq_false, true_implies, false_implies, imp_self, implies_true, forall_const, zk_lit, zk_uj_ap, zk_un_ap, zk_un_un, zk_uj_uj, Nat.reduceEqDiff, eq_self, zk_bq, Bool.true_or, Bool.false_or, Nat.le_refl, Nat.zero_add, Nat.add_zero, Nat.reduceAdd, Nat.reduceLeDiff, Nat.le_zero_eq, and_self, and_false, false_and, ite_true, ite_false, Nat.zero_le, List.length_cons, List.length_nil, Option.some.injEq, forall_eq', reduceCtorEq, c1])
      exact h
    | succ m ih =>
      intro k l5 hk
      have c1 : ¬ nI 20 ≤ nI k := nI_ge (by omega) (by omega)
      have hin : vp_in (nI k) 20 := n_in (by omega) (by decide)
      have hcl : (nI k).toNatClampNeg = k := n_cl (by omega)
      have ih2 := fun l5 => ih (k + 1) l5 (by omega)
      rw [cntB_succ] at ih2
      cases q : Q 2 k with
      | none =>
        rw [if_neg (by rw [q]; decide), Nat.add_zero] at ih2
        (refine hG 900 _ _ _ _ ?_; simp only [r_X10_rooms, zk_kl_none, zk_kl_int, zk_kl_ref, zk_kl_null, zk_kl_long, zk_kl_rf, zk_isr_ref, zk_isr_null, zk_isr_rf9, zk_c1_int, zk_c1_ref, zk_c1_null, zk_c1_rf, zk_psh_some, zk_psh_none, zk_nok_int, zk_nok_bool0, zk_nok_bool1, zk_nok_b, zk_fok_0, zk_fok_1, zk_fok_2, zk_fok_n, zk_fok_rf, zb_f, zb_p, zb_i, zb_a, zb_s, zk_nth_0, zk_nth_s, zk_fld_o, zk_put_o, zk_rv_eq, zk_ri_eq, zk_is_o, List.mem_cons, List.not_mem_nil, or_false, false_or, or_true, true_or, and_true, true_and, not_false_iff, not_true_eq_false, true_implies, false_implies, imp_self, implies_true, forall_const, zk_lit, zk_uj_ap, zk_un_ap, zk_un_un, zk_uj_uj, Nat.reduceEqDiff, eq_self, zk_bq, Bool.true_or, Bool.false_or, Nat.le_refl, Nat.zero_add, Nat.add_zero, Nat.reduceAdd, Nat.reduceLeDiff, Nat.le_zero_eq, and_self, and_false, false_and, ite_true, ite_false, Nat.zero_le, List.length_cons, List.length_nil, Option.some.injEq, forall_eq', reduceCtorEq, c1, hin, hcl, q, n_succ])
        exact ih2 _
      | some b =>
        rw [if_pos (by rw [q]; rfl)] at ih2
        (refine hG 900 _ _ _ _ ?_; simp only [r_X10_rooms, zk_kl_none, zk_kl_int, zk_kl_ref, zk_kl_null, zk_kl_long, zk_kl_rf, zk_isr_ref, zk_isr_null, zk_isr_rf9, zk_c1_int, zk_c1_ref, zk_c1_null, zk_c1_rf, zk_psh_some, zk_psh_none, zk_nok_int, zk_nok_bool0, zk_nok_bool1, zk_nok_b, zk_fok_0, zk_fok_1, zk_fok_2, zk_fok_n, zk_fok_rf, zb_f, zb_p, zb_i, zb_a, zb_s, zk_nth_0, zk_nth_s, zk_fld_o, zk_put_o, zk_rv_eq, zk_ri_eq, zk_is_o, List.mem_cons, List.not_mem_nil, or_false, false_or, or_true, true_or, and_true, true_and, not_false_iff, not_true_eq_false, true_implies, false_implies, imp_self, implies_true, forall_const, zk_lit, zk_uj_ap, zk_un_ap, zk_un_un, zk_uj_uj, Nat.reduceEqDiff, eq_self, zk_bq, Bool.true_or, Bool.false_or, Nat.le_refl, Nat.zero_add, Nat.add_zero, Nat.reduceAdd, Nat.reduceLeDiff, Nat.le_zero_eq, and_self, and_false, false_and, ite_true, ite_false, Nat.zero_le, List.length_cons, List.length_nil, Option.some.injEq, forall_eq', reduceCtorEq, c1, hin, hcl, q, n_succ])
        exact ih2 _
  have l0 := loop 20 0 none (by omega)
  (refine hG 900 _ _ _ _ ?_; simp only [r_X10_rooms, zk_kl_none, zk_kl_int, zk_kl_ref, zk_kl_null, zk_kl_long, zk_kl_rf, zk_isr_ref, zk_isr_null, zk_isr_rf9, zk_c1_int, zk_c1_ref, zk_c1_null, zk_c1_rf, zk_psh_some, zk_psh_none, zk_nok_int, zk_nok_bool0, zk_nok_bool1, zk_nok_b, zk_fok_0, zk_fok_1, zk_fok_2, zk_fok_n, zk_fok_rf, zb_f, zb_p, zb_i, zb_a, zb_s, zk_nth_0, zk_nth_s, zk_fld_o, zk_put_o, zk_rv_eq, zk_ri_eq, zk_is_o, List.mem_cons, List.not_mem_nil, or_false, false_or, or_true, true_or, and_true, true_and, not_false_iff, not_true_eq_false, true_implies, false_implies, imp_self, implies_true, forall_const, zk_lit, zk_uj_ap, zk_un_ap, zk_un_un, zk_uj_uj, Nat.reduceEqDiff, eq_self, zk_bq, Bool.true_or, Bool.false_or, Nat.le_refl, Nat.zero_add, Nat.add_zero, Nat.reduceAdd, Nat.reduceLeDiff, Nat.le_zero_eq, and_self, and_false, false_and, ite_true, ite_false, Nat.zero_le, List.length_cons, List.length_nil, Option.some.injEq, forall_eq', reduceCtorEq, c20])
  exact l0
theorem ct_X10_rooms {l : Launch} (hl : l.stackTraces = false) (E : zk_E) : zk_C l E (zk_VT E) yX10_rooms cX10_rooms 6 (some (.int)) rm_X10_rooms (sp_X10_rooms E) := by
  refine zk_meth (M := M_X10_rooms) (C := C_X10_rooms E) hl (by decide +kernel) rfl (fun _ _ => rfl) (zk_VT_ok E) MO_X10_rooms TO_X10_rooms THo_X10_rooms ?_ (vc_X10_rooms E)
  exact fun p e s m args below meth c X pc n mc ms sp2 h => absurd (zk_lka_mem h) List.not_mem_nil
theorem m_fst_skip {p : Nat → Bool} {n : Nat} : ∀ k, (∀ i, n ≤ i → i < n + k → p i = false) → m_fst p (n + k) = m_fst p n
  | 0, _ => rfl
  | k + 1, h => by
    rw [← Nat.add_assoc, m_fst, m_fst_skip k (fun i a b => h i a (by omega)), h (n + k) (by omega) (by omega)]
    cases m_fst p n <;> rfl
theorem m_fst_cong {p q : Nat → Bool} : ∀ {n}, (∀ i, i < n → p i = q i) → m_fst p n = m_fst q n
  | 0, _ => rfl
  | n + 1, h => by rw [m_fst, m_fst, m_fst_cong (fun i hi => h i (by omega)), h n (by omega)]
def r_at (Q : Nat → Nat → Option Nat) (O : zk_Hp) (fl x y : Int32) (r : Nat) : Bool := match Q 2 r with
  | some a => decide (fI (O a) 1 = fl) && m_unit (fI (O a) 2) (fI (O a) 3) (fI (O a) 4) (fI (O a) 5) x y
  | none => false
theorem r_at_eq {E : zk_E} {sz : Nat} {J N : Nat → Nat → Int32} {Q : Nat → Nat → Option Nat} {O : zk_Hp} (h : XB E sz Q O J N) (hms : MS J) {fl x y : Int32} (hfl : ¬ fl = -2) : m_fst (r_at Q O fl x y) 20 = m_fst (m_atf N fl x y) (m_nr J) := by
  have hr20 := hms.1.2
  have key : ∀ r, r < 20 → r_at Q O fl x y r = (decide (r < m_nr J) && m_atf N fl x y r) := fun r hr => by
    unfold r_at m_atf
    rcases h r hr with ⟨a, h0, h1, -, h2⟩ | ⟨h0, h1⟩
    · rw [h1, decide_eq_true h0.1, Bool.true_and]
      dsimp only
      rw [h2]
      rfl
    · rw [h1]
      dsimp only
      by_cases w : r < m_nr J
      · have : N 23 r = -2 := Decidable.byContradiction fun z => h0 ⟨w, z⟩
        rw [this, decide_eq_false (show ¬ (-2 : Int32) = fl from fun z => hfl z.symm), Bool.false_and, Bool.and_false]
      · rw [decide_eq_false w, Bool.false_and]
  rw [show 20 = m_nr J + (20 - m_nr J) by omega, m_fst_skip (p := r_at Q O fl x y)]
  · exact m_fst_cong (fun k hk => by rw [key k (by omega), decide_eq_true hk, Bool.true_and])
  · intro i h1 h2
    rw [key i (by omega), decide_eq_false (by omega), Bool.false_and]
def sp_X10_roomAt (E : zk_E) : zk_Sp zk_S := fun av σ sz P PX => match av with
  | [.ref a, .int fl, .int x, .int y] => a = zk_ad E 0 ∧ ∃ J N, IC E sz σ J N ∧ (m_isIn fl 0 2 = false → TX σ sz "java/lang/IllegalArgumentException" PX) ∧ (m_isIn fl 0 2 = true → P (some (.int (a_at J N fl x y))) σ sz)
  | _ => False
theorem spe_X10_roomAt (E : zk_E) (a : Nat) (fl : Int32) (x : Int32) (y : Int32) (σ : zk_S) (sz : Nat) (P : zk_P zk_S) (PX : zk_X zk_S) : sp_X10_roomAt E [.ref a, .int fl, .int x, .int y] σ sz P PX = (a = zk_ad E 0 ∧ ∃ J N, IC E sz σ J N ∧ (m_isIn fl 0 2 = false → TX σ sz "java/lang/IllegalArgumentException" PX) ∧ (m_isIn fl 0 2 = true → P (some (.int (a_at J N fl x y))) σ sz)) := propext Iff.rfl
def C_X10_roomAt (E : zk_E) : zk_Cl zk_S := zk_lka [(3, 3, 0, 0, sp_X10_isWithin E), (68, 3, 0, 0, zk_rv (zk_VT E) (fun ci => Nat.beq ci 5) (sp_X6_hasUnit E))]
theorem r_X10_roomAt (E : zk_E) (P : zk_P zk_S) (PX : zk_X zk_S) (K : Nat → zk_L → List Value → zk_W zk_S → Prop) : (∀ (n : Nat) (l0 l2 l3 l4 l5 l6 l7 : Option Value) (y1 : Int32) (r : List Value) (σ : zk_S) (sz k c : Nat), zk_run E (zk_VT E) M_X10_roomAt (C_X10_roomAt E) P PX K (n + 1) 0 [l0, some (.int y1), l2, l3, l4, l5, l6, l7] r (σ, sz, k, c) = zk_run E (zk_VT E) M_X10_roomAt (C_X10_roomAt E) P PX K n 1 [l0, some (.int y1), l2, l3, l4, l5, l6, l7] (.int y1 :: r) (σ, sz, k, c)) ∧
  (∀ (n : Nat) (l0 l1 l2 l3 l4 l5 l6 l7 : Option Value)  (r : List Value) (σ : zk_S) (sz k c : Nat), zk_run E (zk_VT E) M_X10_roomAt (C_X10_roomAt E) P PX K (n + 1) 1 [l0, l1, l2, l3, l4, l5, l6, l7] r (σ, sz, k, c) = zk_run E (zk_VT E) M_X10_roomAt (C_X10_roomAt E) P PX K n 2 [l0, l1, l2, l3, l4, l5, l6, l7] (.int (0) :: r) (σ, sz, k, c)) ∧
  (∀ (n : Nat) (l0 l1 l2 l3 l4 l5 l6 l7 : Option Value)  (r : List Value) (σ : zk_S) (sz k c : Nat), zk_run E (zk_VT E) M_X10_roomAt (C_X10_roomAt E) P PX K (n + 1) 2 [l0, l1, l2, l3, l4, l5, l6, l7] r (σ, sz, k, c) = zk_run E (zk_VT E) M_X10_roomAt (C_X10_roomAt E) P PX K n 3 [l0, l1, l2, l3, l4, l5, l6, l7] (.int (2) :: r) (σ, sz, k, c)) ∧
  (∀ (n : Nat) (l0 l1 l2 l3 l4 l5 l6 l7 : Option Value) (v0 : Value) (v1 : Value) (v2 : Value)  (σ : zk_S) (sz k c : Nat), zk_run E (zk_VT E) M_X10_roomAt (C_X10_roomAt E) P PX K (n + 1) 3 [l0, l1, l2, l3, l4, l5, l6, l7] [v0, v1, v2] (σ, sz, k, c) = (k + 0 ≤ 1 ∧ c + 0 ≤ 6 ∧ (sp_X10_isWithin E) [v2, v1, v0] σ sz (fun v s2 z2 => zk_run E (zk_VT E) M_X10_roomAt (C_X10_roomAt E) P PX K n 6 [l0, l1, l2, l3, l4, l5, l6, l7] (zk_psh v []) (s2, z2, k + 0, c + 0)) (fun X s2 z2 => PX X s2 z2))) ∧
  (∀ (n : Nat) (l0 l1 l2 l3 l4 l5 l6 l7 : Option Value) (x : Int32) (r : List Value) (σ : zk_S) (sz k c : Nat), zk_run E (zk_VT E) M_X10_roomAt (C_X10_roomAt E) P PX K (n + 1) 6 [l0, l1, l2, l3, l4, l5, l6, l7] (.int x :: r) (σ, sz, k, c) = ((¬ x = 0 → zk_run E (zk_VT E) M_X10_roomAt (C_X10_roomAt E) P PX K n 19 [l0, l1, l2, l3, l4, l5, l6, l7] r (σ, sz, k, c)) ∧ (¬ (¬ x = 0) → zk_run E (zk_VT E) M_X10_roomAt (C_X10_roomAt E) P PX K n 9 [l0, l1, l2, l3, l4, l5, l6, l7] r (σ, sz, k, c)))) ∧
  (∀ (n : Nat) (l0 l1 l2 l3 l4 l5 l6 l7 : Option Value)   (σ : zk_S) (sz k c : Nat), zk_run E (zk_VT E) M_X10_roomAt (C_X10_roomAt E) P PX K (n + 1) 9 [l0, l1, l2, l3, l4, l5, l6, l7] [] (σ, sz, k, c) = (([] : List Value) = [] ∧ (∀ z2, sz ≤ z2 → PX "java/lang/IllegalArgumentException" σ z2) ∧ k + 1 ≤ 1 ∧ c + 6 ≤ 6)) ∧
  (∀ (n : Nat) (l1 l2 l3 l4 l5 l6 l7 : Option Value) (y0 : Value) (r : List Value) (σ : zk_S) (sz k c : Nat), zk_run E (zk_VT E) M_X10_roomAt (C_X10_roomAt E) P PX K (n + 1) 19 [some y0, l1, l2, l3, l4, l5, l6, l7] r (σ, sz, k, c) = (zk_isr y0 ∧ zk_run E (zk_VT E) M_X10_roomAt (C_X10_roomAt E) P PX K n 20 [some y0, l1, l2, l3, l4, l5, l6, l7] (y0 :: r) (σ, sz, k, c))) ∧
  (∀ (n : Nat) (l0 l1 l2 l3 l4 l5 l6 l7 : Option Value) (a : Nat) (r : List Value) (σ : zk_S) (sz k c : Nat), zk_run E (zk_VT E) M_X10_roomAt (C_X10_roomAt E) P PX K (n + 1) 20 [l0, l1, l2, l3, l4, l5, l6, l7] (.ref a :: r) (σ, sz, k, c) = zk_fld (zk_view E σ a) [9] 0 (fun v => zk_run E (zk_VT E) M_X10_roomAt (C_X10_roomAt E) P PX K n 23 [l0, l1, l2, l3, l4, l5, l6, l7] (v :: r) (σ, sz, k, c))) ∧
  (∀ (n : Nat) (l0 l1 l2 l3 l4 l5 l6 l7 : Option Value) (a : Nat) (r : List Value) (σ : zk_S) (sz k c : Nat), zk_run E (zk_VT E) M_X10_roomAt (C_X10_roomAt E) P PX K (n + 1) 23 [l0, l1, l2, l3, l4, l5, l6, l7] (.ref a :: r) (σ, sz, k, c) = zk_fld (zk_view E σ a) [4] 0 (fun v => zk_run E (zk_VT E) M_X10_roomAt (C_X10_roomAt E) P PX K n 26 [l0, l1, l2, l3, l4, l5, l6, l7] (v :: r) (σ, sz, k, c))) ∧
  (∀ (n : Nat) (l0 l1 l2 l3 l4 l5 l6 l7 : Option Value) (x : Value) (r : List Value) (σ : zk_S) (sz k c : Nat), zk_run E (zk_VT E) M_X10_roomAt (C_X10_roomAt E) P PX K (n + 1) 26 [l0, l1, l2, l3, l4, l5, l6, l7] (x :: r) (σ, sz, k, c) = (zk_isr x ∧ zk_run E (zk_VT E) M_X10_roomAt (C_X10_roomAt E) P PX K n 28 [l0, l1, l2, zk_kl l3, some (x), l5, l6, l7] r (σ, sz, k, c))) ∧
  (∀ (n : Nat) (l0 l1 l2 l3 l5 l6 l7 : Option Value) (y4 : Value) (r : List Value) (σ : zk_S) (sz k c : Nat), zk_run E (zk_VT E) M_X10_roomAt (C_X10_roomAt E) P PX K (n + 1) 28 [l0, l1, l2, l3, some y4, l5, l6, l7] r (σ, sz, k, c) = (zk_isr y4 ∧ zk_run E (zk_VT E) M_X10_roomAt (C_X10_roomAt E) P PX K n 30 [l0, l1, l2, l3, some y4, l5, l6, l7] (y4 :: r) (σ, sz, k, c))) ∧
  (∀ (n : Nat) (l0 l1 l2 l3 l4 l5 l6 l7 : Option Value) (a : Nat) (r : List Value) (σ : zk_S) (sz k c : Nat), zk_run E (zk_VT E) M_X10_roomAt (C_X10_roomAt E) P PX K (n + 1) 30 [l0, l1, l2, l3, l4, l5, l6, l7] (.ref a :: r) (σ, sz, k, c) = zk_lenq E (zk_view E σ a) (fun x => zk_run E (zk_VT E) M_X10_roomAt (C_X10_roomAt E) P PX K n 31 [l0, l1, l2, l3, l4, l5, l6, l7] (.int x :: r) (σ, sz, k, c))) ∧
  (∀ (n : Nat) (l0 l1 l2 l3 l4 l5 l6 l7 : Option Value) (x : Int32) (r : List Value) (σ : zk_S) (sz k c : Nat), zk_run E (zk_VT E) M_X10_roomAt (C_X10_roomAt E) P PX K (n + 1) 31 [l0, l1, l2, l3, l4, l5, l6, l7] (.int x :: r) (σ, sz, k, c) = zk_run E (zk_VT E) M_X10_roomAt (C_X10_roomAt E) P PX K n 33 [l0, l1, l2, l3, zk_kl l4, some (.int x), l6, l7] r (σ, sz, k, c)) ∧
  (∀ (n : Nat) (l0 l1 l2 l3 l4 l5 l6 l7 : Option Value)  (r : List Value) (σ : zk_S) (sz k c : Nat), zk_run E (zk_VT E) M_X10_roomAt (C_X10_roomAt E) P PX K (n + 1) 33 [l0, l1, l2, l3, l4, l5, l6, l7] r (σ, sz, k, c) = zk_run E (zk_VT E) M_X10_roomAt (C_X10_roomAt E) P PX K n 34 [l0, l1, l2, l3, l4, l5, l6, l7] (.int (0) :: r) (σ, sz, k, c)) ∧
  (∀ (n : Nat) (l0 l1 l2 l3 l4 l5 l6 l7 : Option Value) (x : Int32) (r : List Value) (σ : zk_S) (sz k c : Nat), zk_run E (zk_VT E) M_X10_roomAt (C_X10_roomAt E) P PX K (n + 1) 34 [l0, l1, l2, l3, l4, l5, l6, l7] (.int x :: r) (σ, sz, k, c) = zk_run E (zk_VT E) M_X10_roomAt (C_X10_roomAt E) P PX K n 36 [l0, l1, l2, l3, l4, zk_kl l5, some (.int x), l7] r (σ, sz, k, c)) ∧
  (∀ (n : Nat) (l0 l1 l2 l3 l4 l5 l6 l7 : Option Value)  (r : List Value) (σ : zk_S) (sz k c : Nat), zk_run E (zk_VT E) M_X10_roomAt (C_X10_roomAt E) P PX K (n + 1) 36 [l0, l1, l2, l3, l4, l5, l6, l7] r (σ, sz, k, c) = K 36 [l0, l1, l2, l3, l4, l5, l6, l7] r (σ, sz, k, c)) ∧
  (∀ (n : Nat) (l0 l1 l2 l3 l4 l6 l7 : Option Value) (y5 : Int32) (r : List Value) (σ : zk_S) (sz k c : Nat), zk_run E (zk_VT E) M_X10_roomAt (C_X10_roomAt E) P PX K (n + 1) 38 [l0, l1, l2, l3, l4, some (.int y5), l6, l7] r (σ, sz, k, c) = zk_run E (zk_VT E) M_X10_roomAt (C_X10_roomAt E) P PX K n 40 [l0, l1, l2, l3, l4, some (.int y5), l6, l7] (.int y5 :: r) (σ, sz, k, c)) ∧
  (∀ (n : Nat) (l0 l1 l2 l3 l4 l5 l6 l7 : Option Value) (x y : Int32) (r : List Value) (σ : zk_S) (sz k c : Nat), zk_run E (zk_VT E) M_X10_roomAt (C_X10_roomAt E) P PX K (n + 1) 40 [l0, l1, l2, l3, l4, l5, l6, l7] (.int y :: .int x :: r) (σ, sz, k, c) = ((y ≤ x → zk_run E (zk_VT E) M_X10_roomAt (C_X10_roomAt E) P PX K n 86 [l0, l1, l2, l3, l4, l5, l6, l7] r (σ, sz, k, c)) ∧ (¬ (y ≤ x) → zk_run E (zk_VT E) M_X10_roomAt (C_X10_roomAt E) P PX K n 43 [l0, l1, l2, l3, l4, l5, l6, l7] r (σ, sz, k, c)))) ∧
  (∀ (n : Nat) (l0 l1 l2 l3 l5 l6 l7 : Option Value) (y4 : Value) (r : List Value) (σ : zk_S) (sz k c : Nat), zk_run E (zk_VT E) M_X10_roomAt (C_X10_roomAt E) P PX K (n + 1) 43 [l0, l1, l2, l3, some y4, l5, l6, l7] r (σ, sz, k, c) = (zk_isr y4 ∧ zk_run E (zk_VT E) M_X10_roomAt (C_X10_roomAt E) P PX K n 45 [l0, l1, l2, l3, some y4, l5, l6, l7] (y4 :: r) (σ, sz, k, c))) ∧
  (∀ (n : Nat) (l0 l1 l2 l3 l4 l5 l7 : Option Value) (y6 : Int32) (r : List Value) (σ : zk_S) (sz k c : Nat), zk_run E (zk_VT E) M_X10_roomAt (C_X10_roomAt E) P PX K (n + 1) 45 [l0, l1, l2, l3, l4, l5, some (.int y6), l7] r (σ, sz, k, c) = zk_run E (zk_VT E) M_X10_roomAt (C_X10_roomAt E) P PX K n 47 [l0, l1, l2, l3, l4, l5, some (.int y6), l7] (.int y6 :: r) (σ, sz, k, c)) ∧
  (∀ (n : Nat) (l0 l1 l2 l3 l4 l5 l6 l7 : Option Value) (a : Nat) (i : Int32) (r : List Value) (σ : zk_S) (sz k c : Nat), zk_run E (zk_VT E) M_X10_roomAt (C_X10_roomAt E) P PX K (n + 1) 47 [l0, l1, l2, l3, l4, l5, l6, l7] (.int i :: .ref a :: r) (σ, sz, k, c) = zk_qld (zk_view E σ a) i [zk_ar E 3, zk_ar E 4, zk_ar E 5, zk_ar E 6] (fun x => (x = none → zk_run E (zk_VT E) M_X10_roomAt (C_X10_roomAt E) P PX K n 48 [l0, l1, l2, l3, l4, l5, l6, l7] (.null :: r) (σ, sz, k, c)) ∧ ∀ b, x = some b → zk_run E (zk_VT E) M_X10_roomAt (C_X10_roomAt E) P PX K n 48 [l0, l1, l2, l3, l4, l5, l6, l7] (.ref b :: r) (σ, sz, k, c))) ∧
  (∀ (n : Nat) (l0 l1 l2 l3 l4 l5 l6 l7 : Option Value) (x : Value) (r : List Value) (σ : zk_S) (sz k c : Nat), zk_run E (zk_VT E) M_X10_roomAt (C_X10_roomAt E) P PX K (n + 1) 48 [l0, l1, l2, l3, l4, l5, l6, l7] (x :: r) (σ, sz, k, c) = (zk_isr x ∧ zk_run E (zk_VT E) M_X10_roomAt (C_X10_roomAt E) P PX K n 50 [l0, l1, l2, l3, l4, l5, zk_kl l6, some (x)] r (σ, sz, k, c))) ∧
  (∀ (n : Nat) (l0 l1 l2 l3 l4 l5 l6 : Option Value) (y7 : Value) (r : List Value) (σ : zk_S) (sz k c : Nat), zk_run E (zk_VT E) M_X10_roomAt (C_X10_roomAt E) P PX K (n + 1) 50 [l0, l1, l2, l3, l4, l5, l6, some y7] r (σ, sz, k, c) = (zk_isr y7 ∧ zk_run E (zk_VT E) M_X10_roomAt (C_X10_roomAt E) P PX K n 52 [l0, l1, l2, l3, l4, l5, l6, some y7] (y7 :: r) (σ, sz, k, c))) ∧
  (∀ (n : Nat) (l0 l1 l2 l3 l4 l5 l6 l7 : Option Value) (v : Value) (r : List Value) (σ : zk_S) (sz k c : Nat), zk_run E (zk_VT E) M_X10_roomAt (C_X10_roomAt E) P PX K (n + 1) 52 [l0, l1, l2, l3, l4, l5, l6, l7] (v :: r) (σ, sz, k, c) = (zk_isr v ∧ (v = .null → zk_run E (zk_VT E) M_X10_roomAt (C_X10_roomAt E) P PX K n 80 [l0, l1, l2, l3, l4, l5, l6, l7] r (σ, sz, k, c)) ∧ (¬ (v = .null) → zk_run E (zk_VT E) M_X10_roomAt (C_X10_roomAt E) P PX K n 55 [l0, l1, l2, l3, l4, l5, l6, l7] r (σ, sz, k, c)))) ∧
  (∀ (n : Nat) (l0 l1 l2 l3 l4 l5 l6 : Option Value) (y7 : Value) (r : List Value) (σ : zk_S) (sz k c : Nat), zk_run E (zk_VT E) M_X10_roomAt (C_X10_roomAt E) P PX K (n + 1) 55 [l0, l1, l2, l3, l4, l5, l6, some y7] r (σ, sz, k, c) = (zk_isr y7 ∧ zk_run E (zk_VT E) M_X10_roomAt (C_X10_roomAt E) P PX K n 57 [l0, l1, l2, l3, l4, l5, l6, some y7] (y7 :: r) (σ, sz, k, c))) ∧
  (∀ (n : Nat) (l0 l1 l2 l3 l4 l5 l6 l7 : Option Value) (a : Nat) (r : List Value) (σ : zk_S) (sz k c : Nat), zk_run E (zk_VT E) M_X10_roomAt (C_X10_roomAt E) P PX K (n + 1) 57 [l0, l1, l2, l3, l4, l5, l6, l7] (.ref a :: r) (σ, sz, k, c) = zk_fld (zk_view E σ a) [5] 1 (fun v => zk_run E (zk_VT E) M_X10_roomAt (C_X10_roomAt E) P PX K n 60 [l0, l1, l2, l3, l4, l5, l6, l7] (v :: r) (σ, sz, k, c))) ∧
  (∀ (n : Nat) (l0 l2 l3 l4 l5 l6 l7 : Option Value) (y1 : Int32) (r : List Value) (σ : zk_S) (sz k c : Nat), zk_run E (zk_VT E) M_X10_roomAt (C_X10_roomAt E) P PX K (n + 1) 60 [l0, some (.int y1), l2, l3, l4, l5, l6, l7] r (σ, sz, k, c) = zk_run E (zk_VT E) M_X10_roomAt (C_X10_roomAt E) P PX K n 61 [l0, some (.int y1), l2, l3, l4, l5, l6, l7] (.int y1 :: r) (σ, sz, k, c)) ∧
  (∀ (n : Nat) (l0 l1 l2 l3 l4 l5 l6 l7 : Option Value) (x y : Int32) (r : List Value) (σ : zk_S) (sz k c : Nat), zk_run E (zk_VT E) M_X10_roomAt (C_X10_roomAt E) P PX K (n + 1) 61 [l0, l1, l2, l3, l4, l5, l6, l7] (.int y :: .int x :: r) (σ, sz, k, c) = ((¬ x = y → zk_run E (zk_VT E) M_X10_roomAt (C_X10_roomAt E) P PX K n 80 [l0, l1, l2, l3, l4, l5, l6, l7] r (σ, sz, k, c)) ∧ (¬ (¬ x = y) → zk_run E (zk_VT E) M_X10_roomAt (C_X10_roomAt E) P PX K n 64 [l0, l1, l2, l3, l4, l5, l6, l7] r (σ, sz, k, c)))) ∧
  (∀ (n : Nat) (l0 l1 l2 l3 l4 l5 l6 : Option Value) (y7 : Value) (r : List Value) (σ : zk_S) (sz k c : Nat), zk_run E (zk_VT E) M_X10_roomAt (C_X10_roomAt E) P PX K (n + 1) 64 [l0, l1, l2, l3, l4, l5, l6, some y7] r (σ, sz, k, c) = (zk_isr y7 ∧ zk_run E (zk_VT E) M_X10_roomAt (C_X10_roomAt E) P PX K n 66 [l0, l1, l2, l3, l4, l5, l6, some y7] (y7 :: r) (σ, sz, k, c))) ∧
  (∀ (n : Nat) (l0 l1 l3 l4 l5 l6 l7 : Option Value) (y2 : Int32) (r : List Value) (σ : zk_S) (sz k c : Nat), zk_run E (zk_VT E) M_X10_roomAt (C_X10_roomAt E) P PX K (n + 1) 66 [l0, l1, some (.int y2), l3, l4, l5, l6, l7] r (σ, sz, k, c) = zk_run E (zk_VT E) M_X10_roomAt (C_X10_roomAt E) P PX K n 67 [l0, l1, some (.int y2), l3, l4, l5, l6, l7] (.int y2 :: r) (σ, sz, k, c)) ∧
  (∀ (n : Nat) (l0 l1 l2 l4 l5 l6 l7 : Option Value) (y3 : Int32) (r : List Value) (σ : zk_S) (sz k c : Nat), zk_run E (zk_VT E) M_X10_roomAt (C_X10_roomAt E) P PX K (n + 1) 67 [l0, l1, l2, some (.int y3), l4, l5, l6, l7] r (σ, sz, k, c) = zk_run E (zk_VT E) M_X10_roomAt (C_X10_roomAt E) P PX K n 68 [l0, l1, l2, some (.int y3), l4, l5, l6, l7] (.int y3 :: r) (σ, sz, k, c)) ∧
  (∀ (n : Nat) (l0 l1 l2 l3 l4 l5 l6 l7 : Option Value) (v0 : Value) (v1 : Value) (v2 : Value)  (σ : zk_S) (sz k c : Nat), zk_run E (zk_VT E) M_X10_roomAt (C_X10_roomAt E) P PX K (n + 1) 68 [l0, l1, l2, l3, l4, l5, l6, l7] [v0, v1, v2] (σ, sz, k, c) = (k + 0 ≤ 1 ∧ c + 0 ≤ 6 ∧ (zk_rv (zk_VT E) (fun ci => Nat.beq ci 5) (sp_X6_hasUnit E)) [v2, v1, v0] σ sz (fun v s2 z2 => zk_run E (zk_VT E) M_X10_roomAt (C_X10_roomAt E) P PX K n 71 [l0, l1, l2, l3, l4, l5, l6, l7] (zk_psh v []) (s2, z2, k + 0, c + 0)) (fun X s2 z2 => PX X s2 z2))) ∧
  (∀ (n : Nat) (l0 l1 l2 l3 l4 l5 l6 l7 : Option Value) (x : Int32) (r : List Value) (σ : zk_S) (sz k c : Nat), zk_run E (zk_VT E) M_X10_roomAt (C_X10_roomAt E) P PX K (n + 1) 71 [l0, l1, l2, l3, l4, l5, l6, l7] (.int x :: r) (σ, sz, k, c) = ((x = 0 → zk_run E (zk_VT E) M_X10_roomAt (C_X10_roomAt E) P PX K n 80 [l0, l1, l2, l3, l4, l5, l6, l7] r (σ, sz, k, c)) ∧ (¬ (x = 0) → zk_run E (zk_VT E) M_X10_roomAt (C_X10_roomAt E) P PX K n 74 [l0, l1, l2, l3, l4, l5, l6, l7] r (σ, sz, k, c)))) ∧
  (∀ (n : Nat) (l0 l1 l2 l3 l4 l5 l6 : Option Value) (y7 : Value) (r : List Value) (σ : zk_S) (sz k c : Nat), zk_run E (zk_VT E) M_X10_roomAt (C_X10_roomAt E) P PX K (n + 1) 74 [l0, l1, l2, l3, l4, l5, l6, some y7] r (σ, sz, k, c) = (zk_isr y7 ∧ zk_run E (zk_VT E) M_X10_roomAt (C_X10_roomAt E) P PX K n 76 [l0, l1, l2, l3, l4, l5, l6, some y7] (y7 :: r) (σ, sz, k, c))) ∧
  (∀ (n : Nat) (l0 l1 l2 l3 l4 l5 l6 l7 : Option Value) (a : Nat) (r : List Value) (σ : zk_S) (sz k c : Nat), zk_run E (zk_VT E) M_X10_roomAt (C_X10_roomAt E) P PX K (n + 1) 76 [l0, l1, l2, l3, l4, l5, l6, l7] (.ref a :: r) (σ, sz, k, c) = zk_fld (zk_view E σ a) [5] 0 (fun v => zk_run E (zk_VT E) M_X10_roomAt (C_X10_roomAt E) P PX K n 79 [l0, l1, l2, l3, l4, l5, l6, l7] (v :: r) (σ, sz, k, c))) ∧
  (∀ (n : Nat) (l0 l1 l2 l3 l4 l5 l6 l7 : Option Value) (x : Int32)  (σ : zk_S) (sz k c : Nat), zk_run E (zk_VT E) M_X10_roomAt (C_X10_roomAt E) P PX K (n + 1) 79 [l0, l1, l2, l3, l4, l5, l6, l7] [.int x] (σ, sz, k, c) = (zk_nok (some (.int)) x ∧ P (some (.int x)) σ sz ∧ k ≤ 1 ∧ c ≤ 6)) ∧
  (∀ (n : Nat) (l0 l1 l2 l3 l4 l5 l7 : Option Value) (y6 : Int32) (r : List Value) (σ : zk_S) (sz k c : Nat), zk_run E (zk_VT E) M_X10_roomAt (C_X10_roomAt E) P PX K (n + 1) 80 [l0, l1, l2, l3, l4, l5, some (.int y6), l7] r (σ, sz, k, c) = zk_run E (zk_VT E) M_X10_roomAt (C_X10_roomAt E) P PX K n 83 [l0, l1, l2, l3, l4, zk_kl l5, some (.int (y6 + 1)), l7] r (σ, sz, k, c)) ∧
  (∀ (n : Nat) (l0 l1 l2 l3 l4 l5 l6 l7 : Option Value)  (r : List Value) (σ : zk_S) (sz k c : Nat), zk_run E (zk_VT E) M_X10_roomAt (C_X10_roomAt E) P PX K (n + 1) 83 [l0, l1, l2, l3, l4, l5, l6, l7] r (σ, sz, k, c) = zk_run E (zk_VT E) M_X10_roomAt (C_X10_roomAt E) P PX K n 36 [l0, l1, l2, l3, l4, l5, l6, l7] r (σ, sz, k, c)) ∧
  (∀ (n : Nat) (l0 l1 l2 l3 l4 l5 l6 l7 : Option Value)  (r : List Value) (σ : zk_S) (sz k c : Nat), zk_run E (zk_VT E) M_X10_roomAt (C_X10_roomAt E) P PX K (n + 1) 86 [l0, l1, l2, l3, l4, l5, l6, l7] r (σ, sz, k, c) = zk_run E (zk_VT E) M_X10_roomAt (C_X10_roomAt E) P PX K n 87 [l0, l1, l2, l3, l4, l5, l6, l7] (.int ((-1)) :: r) (σ, sz, k, c)) ∧
  (∀ (n : Nat) (l0 l1 l2 l3 l4 l5 l6 l7 : Option Value) (x : Int32)  (σ : zk_S) (sz k c : Nat), zk_run E (zk_VT E) M_X10_roomAt (C_X10_roomAt E) P PX K (n + 1) 87 [l0, l1, l2, l3, l4, l5, l6, l7] [.int x] (σ, sz, k, c) = (zk_nok (some (.int)) x ∧ P (some (.int x)) σ sz ∧ k ≤ 1 ∧ c ≤ 6)) := ⟨by intros; rfl, by intros; rfl, by intros; rfl, by intros; rfl, by intros; rfl, by intros; rfl, by intros; rfl, by intros; rfl, by intros; rfl, by intros; rfl, by intros; rfl, by intros; rfl, by intros; rfl, by intros; rfl, by intros; rfl, by intros; rfl, by intros; rfl, by intros; rfl, by intros; rfl, by intros; rfl, by intros; rfl, by intros; rfl, by intros; rfl, by intros; rfl, by intros; rfl, by intros; rfl, by intros; rfl, by intros; rfl, by intros; rfl, by intros; rfl, by intros; rfl, by intros; rfl, by intros; rfl, by intros; rfl, by intros; rfl, by intros; rfl, by intros; rfl, by intros; rfl, by intros; rfl, by intros; rfl⟩
theorem r_X10_roomAt_1 (E : zk_E) (P : zk_P zk_S) (PX : zk_X zk_S) (K : Nat → zk_L → List Value → zk_W zk_S → Prop) : (∀ (n : Nat) (l0 l1 l2 l3 l4 l5 l6 l7 : Option Value) (r : List Value) (w : zk_W zk_S), zk_go E (zk_VT E) M_X10_roomAt (C_X10_roomAt E) P PX K n 0 [l0, l1, l2, l3, l4, l5, l6, l7] r w = zk_run E (zk_VT E) M_X10_roomAt (C_X10_roomAt E) P PX K (n + 1) 0 [l0, l1, l2, l3, l4, l5, l6, l7] r w) ∧
  (∀ (n : Nat) (l0 l1 l2 l3 l4 l5 l7 : Option Value) (y6 : Int32) (r : List Value) (σ : zk_S) (sz k c : Nat), zk_go E (zk_VT E) M_X10_roomAt (C_X10_roomAt E) P PX K n 36 [l0, l1, l2, l3, l4, l5, some (.int y6), l7] r (σ, sz, k, c) = zk_run E (zk_VT E) M_X10_roomAt (C_X10_roomAt E) P PX K n 38 [l0, l1, l2, l3, l4, l5, some (.int y6), l7] (.int y6 :: r) (σ, sz, k, c)) := ⟨by intros; rfl, by intros; rfl⟩
theorem vc_X10_roomAt (E : zk_E) : zk_VC E (zk_VT E) M_X10_roomAt (C_X10_roomAt E) 8 (sp_X10_roomAt E) := by
  intro av σ sz P PX h
  obtain ⟨J, N, Q, O, U⟩ := σ
  unfold sp_X10_roomAt at h
  split at h
  case h_2 => exact h.elim
  rename_i a0 fl x y
  obtain ⟨rfl, h⟩ := h
  refine ⟨Nat.le_of_ble_eq_true rfl, fun G hG => ?_⟩
  change G 0 [some (.ref (zk_ad E 0)), some (.int fl), some (.int x), some (.int y), none, none, none, none] [] ((J, N, Q, O, U), sz, 0, 0)
  try dsimp only at h
  obtain ⟨J1, N1, ⟨hmi, hxr, hrk⟩, h1, h2⟩ := h
  have c20 : Int32.ofNat 20 = nI 20 := rfl
  cases q : m_isIn fl 0 2 with
  | false =>
    have h := h1 q
    (refine hG 900 _ _ _ _ ?_; simp only [r_X10_roomAt, r_X10_roomAt_1, zk_kl_none, zk_kl_int, zk_kl_ref, zk_kl_null, zk_kl_long, zk_kl_rf, zk_isr_ref, zk_isr_null, zk_isr_rf9, zk_c1_int, zk_c1_ref, zk_c1_null, zk_c1_rf, zk_psh_some, zk_psh_none, zk_nok_int, zk_nok_bool0, zk_nok_bool1, zk_nok_b, zk_fok_0, zk_fok_1, zk_fok_2, zk_fok_n, zk_fok_rf, zb_f, zb_p, zb_i, zb_a, zb_s, zk_nth_0, zk_nth_s, zk_fld_o, zk_put_o, zk_rv_eq, zk_ri_eq, zk_is_o, List.mem_cons, List.not_mem_nil, or_false, false_or, or_true, true_or, and_true, true_and, not_false_iff, not_true_eq_false, true_implies, false_implies, imp_self, implies_true, forall_const, zk_lit, zk_uj_ap, zk_un_ap, zk_un_un, zk_uj_uj, Nat.reduceEqDiff, eq_self, zk_bq, Bool.true_or, Bool.false_or, Nat.le_refl, Nat.zero_add, Nat.add_zero, Nat.reduceAdd, Nat.reduceLeDiff, Nat.le_zero_eq, and_self, and_false, false_and, ite_true, ite_false, Nat.zero_le, List.length_cons, List.length_nil, Option.some.injEq, forall_eq', reduceCtorEq, spe_X10_isWithin, q, zk_b0])
    exact h
  | true =>
    have h := h2 q
    have nfl : ¬ fl = -2 := fun w => by rw [w] at q; revert q; decide
    unfold a_at at h
    rw [← r_at_eq hxr.2.1 hmi.1 nfl] at h
    have loop : ∀ m k l7, k + m = 20 → m_fst (r_at Q O fl x y) k = none → G 36 [some (.ref (zk_ad E 0)), some (.int fl), some (.int x), some (.int y), some (.ref (zk_ad E 2)), some (.int (nI 20)), some (.int (nI k)), l7] [] ((J, N, Q, O, U), sz, 0, 0) := by
      intro m
      induction m with
      | zero =>
        intro k l7 hk hn
        have c1 : nI 20 ≤ nI k := nI_le (by omega) (by omega)
        have ek : k = 20 := by omega
        subst ek
        rw [show m_fst (r_at (J, N, Q, O, U).2.2.1 (J, N, Q, O, U).2.2.2.1 fl x y) 20 = none from hn] at h
        (refine hG 900 _ _ _ _ ?_; simp only [r_X10_roomAt, r_X10_roomAt_1, zk_kl_none, zk_kl_int, zk_kl_ref, zk_kl_null, zk_kl_long, zk_kl_rf, zk_isr_ref, zk_isr_null, zk_isr_rf9, zk_c1_int, zk_c1_ref, zk_c1_null, zk_c1_rf, zk_psh_some, zk_psh_none, zk_nok_int, zk_nok_bool0, zk_nok_bool1, zk_nok_b, zk_fok_0, zk_fok_1, zk_fok_2, zk_fok_n, zk_fok_rf, zb_f, zb_p, zb_i, zb_a, zb_s, zk_nth_0, zk_nth_s, zk_fld_o, zk_put_o, zk_rv_eq, zk_ri_eq, zk_is_o, List.mem_cons, List.not_mem_nil, or_false, false_or, or_true, true_or, and_true, true_and, not_false_iff, not_true_eq_false, true_implies, false_implies, imp_self, implies_true, forall_const, zk_lit, zk_uj_ap, zk_un_ap, zk_un_un, zk_uj_uj, Nat.reduceEqDiff, eq_self, zk_bq, Bool.true_or, Bool.false_or, Nat.le_refl, Nat.zero_add, Nat.add_zero, Nat.reduceAdd, Nat.reduceLeDiff, Nat.le_zero_eq, and_self, and_false, false_and, ite_true, ite_false, Nat.zero_le, List.length_cons, List.length_nil, Option.some.injEq, forall_eq', reduceCtorEq, c1])
        exact h
      | succ m ih =>
        intro k l7 hk hn
        have c1 : ¬ nI 20 ≤ nI k := nI_ge (by omega) (by omega)
        have hin : vp_in (nI k) 20 := n_in (by omega) (by decide)
        have hcl : (nI k).toNatClampNeg = k := n_cl (by omega)
        have ih2 := fun (w : r_at Q O fl x y k = false) l7 => ih (k + 1) l7 (by omega) (by rw [m_fst, hn, w]; rfl)
        have hw : r_at Q O fl x y k = true → P (some (.int (nI k))) (J, N, Q, O, U) sz := fun w => by
          have e := m_fst_some (p := r_at Q O fl x y) (k := k + 1) (j := k) (by rw [m_fst, hn, w]; rfl) m
          rw [show k + 1 + m = 20 by omega] at e
          rw [show m_fst (r_at (J, N, Q, O, U).2.2.1 (J, N, Q, O, U).2.2.2.1 fl x y) 20 = some k from e] at h
          exact h
        rcases hxr.2.1 k (by omega) with ⟨b, hm, hb, hbo, hOb⟩ | ⟨hm, hb⟩
        · have hb : Q 2 k = some b := hb
          have hOb : O b = some (xrm N1 k) := hOb
          have hb1 := hbo.1
          have hB : isR (O b) := by rw [hOb]; exact isR_xrm N1 k
          have g0 : ∀ F : Value → Prop, zk_fld (O b) [5] 0 F = F (.int (nI k)) := fun F => by rw [hOb]; simp [zk_fld_o, xrm, cR, zk_nth]
          have g1 : ∀ F : Value → Prop, zk_fld (O b) [5] 1 F = F (.int (N1 23 k)) := fun F => by rw [hOb]; simp [zk_fld_o, xrm, cR, zk_nth]
          have ib : ∀ kk, zk_is (O b) kk = (kk 5 = true) := fun kk => by rw [hOb]; rfl
          have e0 : r_at Q O fl x y k = (decide (N1 23 k = fl) && m_unit (fI (O b) 2) (fI (O b) 3) (fI (O b) 4) (fI (O b) 5) x y) := by
            have f1 : fI (O b) 1 = N1 23 k := by rw [hOb]; rfl
            unfold r_at
            rw [hb]
            dsimp only
            rw [f1]
          rw [e0] at ih2 hw
          by_cases z1 : N1 23 k = fl
          · cases z2 : m_unit (fI (O b) 2) (fI (O b) 3) (fI (O b) 4) (fI (O b) 5) x y with
            | true =>
              have h3 := hw (by rw [decide_eq_true z1, z2]; rfl)
              (refine hG 900 _ _ _ _ ?_; simp only [r_X10_roomAt, r_X10_roomAt_1, zk_kl_none, zk_kl_int, zk_kl_ref, zk_kl_null, zk_kl_long, zk_kl_rf, zk_isr_ref, zk_isr_null, zk_isr_rf9, zk_c1_int, zk_c1_ref, zk_c1_null, zk_c1_rf, zk_psh_some, zk_psh_none, zk_nok_int, zk_nok_bool0, zk_nok_bool1, zk_nok_b, zk_fok_0, zk_fok_1, zk_fok_2, zk_fok_n, zk_fok_rf, zb_f, zb_p, zb_i, zb_a, zb_s, zk_nth_0, zk_nth_s, zk_fld_o, zk_put_o, zk_rv_eq, zk_ri_eq, zk_is_o, List.mem_cons, List.not_mem_nil, or_false, false_or, or_true, true_or, and_true, true_and, not_false_iff, not_true_eq_false, true_implies, false_implies, imp_self, implies_true, forall_const, zk_lit, zk_uj_ap, zk_un_ap, zk_un_un, zk_uj_uj, Nat.reduceEqDiff, eq_self, zk_bq, Bool.true_or, Bool.false_or, Nat.le_refl, Nat.zero_add, Nat.add_zero, Nat.reduceAdd, Nat.reduceLeDiff, Nat.le_zero_eq, and_self, and_false, false_and, ite_true, ite_false, Nat.zero_le, List.length_cons, List.length_nil, Option.some.injEq, forall_eq', reduceCtorEq, c1, hin, hcl, hb, zk_vd hb1, g1, z1, ib, spe_X6_hasUnit, hb1, hB, z2, zk_b0, Bool.true_eq_false, g0])
              exact h3
            | false =>
              have h3 := ih2 (by rw [z2, Bool.and_false])
              (refine hG 900 _ _ _ _ ?_; simp only [r_X10_roomAt, r_X10_roomAt_1, zk_kl_none, zk_kl_int, zk_kl_ref, zk_kl_null, zk_kl_long, zk_kl_rf, zk_isr_ref, zk_isr_null, zk_isr_rf9, zk_c1_int, zk_c1_ref, zk_c1_null, zk_c1_rf, zk_psh_some, zk_psh_none, zk_nok_int, zk_nok_bool0, zk_nok_bool1, zk_nok_b, zk_fok_0, zk_fok_1, zk_fok_2, zk_fok_n, zk_fok_rf, zb_f, zb_p, zb_i, zb_a, zb_s, zk_nth_0, zk_nth_s, zk_fld_o, zk_put_o, zk_rv_eq, zk_ri_eq, zk_is_o, List.mem_cons, List.not_mem_nil, or_false, false_or, or_true, true_or, and_true, true_and, not_false_iff, not_true_eq_false, true_implies, false_implies, imp_self, implies_true, forall_const, zk_lit, zk_uj_ap, zk_un_ap, zk_un_un, zk_uj_uj, Nat.reduceEqDiff, eq_self, zk_bq, Bool.true_or, Bool.false_or, Nat.le_refl, Nat.zero_add, Nat.add_zero, Nat.reduceAdd, Nat.reduceLeDiff, Nat.le_zero_eq, and_self, and_false, false_and, ite_true, ite_false, Nat.zero_le, List.length_cons, List.length_nil, Option.some.injEq, forall_eq', reduceCtorEq, c1, hin, hcl, hb, zk_vd hb1, g1, z1, ib, spe_X6_hasUnit, hb1, hB, z2, zk_b0, n_succ])
              exact h3 _
          · have h3 := ih2 (by rw [decide_eq_false z1, Bool.false_and])
            (refine hG 900 _ _ _ _ ?_; simp only [r_X10_roomAt, r_X10_roomAt_1, zk_kl_none, zk_kl_int, zk_kl_ref, zk_kl_null, zk_kl_long, zk_kl_rf, zk_isr_ref, zk_isr_null, zk_isr_rf9, zk_c1_int, zk_c1_ref, zk_c1_null, zk_c1_rf, zk_psh_some, zk_psh_none, zk_nok_int, zk_nok_bool0, zk_nok_bool1, zk_nok_b, zk_fok_0, zk_fok_1, zk_fok_2, zk_fok_n, zk_fok_rf, zb_f, zb_p, zb_i, zb_a, zb_s, zk_nth_0, zk_nth_s, zk_fld_o, zk_put_o, zk_rv_eq, zk_ri_eq, zk_is_o, List.mem_cons, List.not_mem_nil, or_false, false_or, or_true, true_or, and_true, true_and, not_false_iff, not_true_eq_false, true_implies, false_implies, imp_self, implies_true, forall_const, zk_lit, zk_uj_ap, zk_un_ap, zk_un_un, zk_uj_uj, Nat.reduceEqDiff, eq_self, zk_bq, Bool.true_or, Bool.false_or, Nat.le_refl, Nat.zero_add, Nat.add_zero, Nat.reduceAdd, Nat.reduceLeDiff, Nat.le_zero_eq, and_self, and_false, false_and, ite_true, ite_false, Nat.zero_le, List.length_cons, List.length_nil, Option.some.injEq, forall_eq', reduceCtorEq, c1, hin, hcl, hb, zk_vd hb1, g1, z1, n_succ])
            exact h3 _
        · have hb : Q 2 k = none := hb
          have h3 := ih2 (by unfold r_at; rw [hb])
          (refine hG 900 _ _ _ _ ?_; simp only [r_X10_roomAt, r_X10_roomAt_1, zk_kl_none, zk_kl_int, zk_kl_ref, zk_kl_null, zk_kl_long, zk_kl_rf, zk_isr_ref, zk_isr_null, zk_isr_rf9, zk_c1_int, zk_c1_ref, zk_c1_null, zk_c1_rf, zk_psh_some, zk_psh_none, zk_nok_int, zk_nok_bool0, zk_nok_bool1, zk_nok_b, zk_fok_0, zk_fok_1, zk_fok_2, zk_fok_n, zk_fok_rf, zb_f, zb_p, zb_i, zb_a, zb_s, zk_nth_0, zk_nth_s, zk_fld_o, zk_put_o, zk_rv_eq, zk_ri_eq, zk_is_o, List.mem_cons, List.not_mem_nil, or_false, false_or, or_true, true_or, and_true, true_and, not_false_iff, not_true_eq_false, true_implies, false_implies, imp_self, implies_true, forall_const, zk_lit, zk_uj_ap, zk_un_ap, zk_un_un, zk_uj_uj, Nat.reduceEqDiff, eq_self, zk_bq, Bool.true_or, Bool.false_or, Nat.le_refl, Nat.zero_add, Nat.add_zero, Nat.reduceAdd, Nat.reduceLeDiff, Nat.le_zero_eq, and_self, and_false, false_and, ite_true, ite_false, Nat.zero_le, List.length_cons, List.length_nil, Option.some.injEq, forall_eq', reduceCtorEq, c1, hin, hcl, hb, n_succ])
          exact h3 _
    have l0 := loop 20 0 none (by omega) rfl
    (refine hG 900 _ _ _ _ ?_; simp only [r_X10_roomAt, r_X10_roomAt_1, zk_kl_none, zk_kl_int, zk_kl_ref, zk_kl_null, zk_kl_long, zk_kl_rf, zk_isr_ref, zk_isr_null, zk_isr_rf9, zk_c1_int, zk_c1_ref, zk_c1_null, zk_c1_rf, zk_psh_some, zk_psh_none, zk_nok_int, zk_nok_bool0, zk_nok_bool1, zk_nok_b, zk_fok_0, zk_fok_1, zk_fok_2, zk_fok_n, zk_fok_rf, zb_f, zb_p, zb_i, zb_a, zb_s, zk_nth_0, zk_nth_s, zk_fld_o, zk_put_o, zk_rv_eq, zk_ri_eq, zk_is_o, List.mem_cons, List.not_mem_nil, or_false, false_or, or_true, true_or, and_true, true_and, not_false_iff, not_true_eq_false, true_implies, false_implies, imp_self, implies_true, forall_const, zk_lit, zk_uj_ap, zk_un_ap, zk_un_un, zk_uj_uj, Nat.reduceEqDiff, eq_self, zk_bq, Bool.true_or, Bool.false_or, Nat.le_refl, Nat.zero_add, Nat.add_zero, Nat.reduceAdd, Nat.reduceLeDiff, Nat.le_zero_eq, and_self, and_false, false_and, ite_true, ite_false, Nat.zero_le, List.length_cons, List.length_nil, Option.some.injEq, forall_eq', reduceCtorEq, spe_X10_isWithin, q, zk_b0, Bool.true_eq_false, c20])
    exact l0
theorem ct_X10_roomAt {l : Launch} (hl : l.stackTraces = false) (E : zk_E) : zk_C l E (zk_VT E) yX10_roomAt cX10_roomAt 8 (some (.int)) rm_X10_roomAt (sp_X10_roomAt E) := by
  refine zk_meth (M := M_X10_roomAt) (C := C_X10_roomAt E) hl (by decide +kernel) rfl (fun _ _ => rfl) (zk_VT_ok E) MO_X10_roomAt TO_X10_roomAt THo_X10_roomAt ?_ (vc_X10_roomAt E)
  exact fun p e s m args below meth c X pc n mc ms sp2 h => by
    have h2 := zk_lka_mem h
    simp only [List.mem_cons, List.not_mem_nil, or_false, Prod.mk.injEq] at h2
    rcases h2 with ⟨rfl, rfl, rfl, rfl, rfl⟩ | ⟨rfl, rfl, rfl, rfl, rfl⟩
    · exact zk_coS (idx := 41) X (ct_X10_isWithin hl E) (List.forall_mem_cons.mpr ⟨zk_wi 400 (by decide +kernel) rfl, List.forall_mem_cons.mpr ⟨zk_wi 401 (by decide +kernel) rfl, List.forall_mem_cons.mpr ⟨zk_wi 1 (by decide +kernel) rfl, List.forall_mem_cons.mpr ⟨zk_wi 402 (by decide +kernel) rfl, fun _ h => absurd h List.not_mem_nil⟩⟩⟩⟩) (by decide +kernel) ⟨by decide, by decide, by decide +kernel⟩ ⟨by decide, by decide⟩
    · exact zk_coV (idx := 191) X (ct_X6_hasUnit hl E) (List.forall_mem_cons.mpr ⟨zk_wi 811 (by decide +kernel) rfl, List.forall_mem_cons.mpr ⟨zk_wi 812 (by decide +kernel) rfl, List.forall_mem_cons.mpr ⟨zk_wi 813 (by decide +kernel) rfl, List.forall_mem_cons.mpr ⟨zk_wi 12 (by decide +kernel) rfl, List.forall_mem_cons.mpr ⟨zk_wi 814 (by decide +kernel) rfl, fun _ h => absurd h List.not_mem_nil⟩⟩⟩⟩⟩) (fun ci h => by
      have h := Nat.eq_of_beq_eq_true h
      subst h
      exact ⟨_, _, rfl⟩) (by decide +kernel) ⟨by decide, by decide, by decide +kernel⟩ ⟨by decide, by decide⟩
def d_jn (Q : Nat → Nat → Option Nat) (O : zk_Hp) (b c d : Nat) : Bool := match Q 3 d with
  | some a => x_bt (O a) b c
  | none => false
def sp_X10_areJoined (E : zk_E) : zk_Sp zk_S := fun av σ sz P PX => match av with
  | [.ref a, .int x, .int y] => a = zk_ad E 0 ∧ ∃ J N, IC E sz σ J N ∧ RD J N x (fun _ => RD J N y (fun _ => P (some (.int (zk_b (a_join J N x y)))) σ sz) (TX σ sz "java/lang/IndexOutOfBoundsException" PX)) (TX σ sz "java/lang/IndexOutOfBoundsException" PX)
  | _ => False
theorem spe_X10_areJoined (E : zk_E) (a : Nat) (x : Int32) (y : Int32) (σ : zk_S) (sz : Nat) (P : zk_P zk_S) (PX : zk_X zk_S) : sp_X10_areJoined E [.ref a, .int x, .int y] σ sz P PX = (a = zk_ad E 0 ∧ ∃ J N, IC E sz σ J N ∧ RD J N x (fun _ => RD J N y (fun _ => P (some (.int (zk_b (a_join J N x y)))) σ sz) (TX σ sz "java/lang/IndexOutOfBoundsException" PX)) (TX σ sz "java/lang/IndexOutOfBoundsException" PX)) := propext Iff.rfl
def C_X10_areJoined (E : zk_E) : zk_Cl zk_S := zk_lka [(2, 2, 1, 6, zk_rv (zk_VT E) (fun ci => Nat.beq ci 9) (sp_X10_roomThere E)), (8, 2, 1, 6, zk_rv (zk_VT E) (fun ci => Nat.beq ci 9) (sp_X10_roomThere E)), (54, 3, 0, 0, zk_rv (zk_VT E) (fun ci => Nat.beq ci 1) (sp_X1_isBetween E))]
theorem r_X10_areJoined (E : zk_E) (P : zk_P zk_S) (PX : zk_X zk_S) (K : Nat → zk_L → List Value → zk_W zk_S → Prop) : (∀ (n : Nat) (l1 l2 l3 l4 l5 l6 l7 l8 : Option Value) (y0 : Value) (r : List Value) (σ : zk_S) (sz k c : Nat), zk_run E (zk_VT E) M_X10_areJoined (C_X10_areJoined E) P PX K (n + 1) 0 [some y0, l1, l2, l3, l4, l5, l6, l7, l8] r (σ, sz, k, c) = (zk_isr y0 ∧ zk_run E (zk_VT E) M_X10_areJoined (C_X10_areJoined E) P PX K n 1 [some y0, l1, l2, l3, l4, l5, l6, l7, l8] (y0 :: r) (σ, sz, k, c))) ∧
  (∀ (n : Nat) (l0 l2 l3 l4 l5 l6 l7 l8 : Option Value) (y1 : Int32) (r : List Value) (σ : zk_S) (sz k c : Nat), zk_run E (zk_VT E) M_X10_areJoined (C_X10_areJoined E) P PX K (n + 1) 1 [l0, some (.int y1), l2, l3, l4, l5, l6, l7, l8] r (σ, sz, k, c) = zk_run E (zk_VT E) M_X10_areJoined (C_X10_areJoined E) P PX K n 2 [l0, some (.int y1), l2, l3, l4, l5, l6, l7, l8] (.int y1 :: r) (σ, sz, k, c)) ∧
  (∀ (n : Nat) (l0 l1 l2 l3 l4 l5 l6 l7 l8 : Option Value) (v0 : Value) (v1 : Value)  (σ : zk_S) (sz k c : Nat), zk_run E (zk_VT E) M_X10_areJoined (C_X10_areJoined E) P PX K (n + 1) 2 [l0, l1, l2, l3, l4, l5, l6, l7, l8] [v0, v1] (σ, sz, k, c) = (k + 1 ≤ 2 ∧ c + 6 ≤ 12 ∧ (zk_rv (zk_VT E) (fun ci => Nat.beq ci 9) (sp_X10_roomThere E)) [v1, v0] σ sz (fun v s2 z2 => zk_run E (zk_VT E) M_X10_areJoined (C_X10_areJoined E) P PX K n 5 [l0, l1, l2, l3, l4, l5, l6, l7, l8] (zk_psh v []) (s2, z2, k + 1, c + 6)) (fun X s2 z2 => PX X s2 z2))) ∧
  (∀ (n : Nat) (l0 l1 l2 l3 l4 l5 l6 l7 l8 : Option Value) (x : Value) (r : List Value) (σ : zk_S) (sz k c : Nat), zk_run E (zk_VT E) M_X10_areJoined (C_X10_areJoined E) P PX K (n + 1) 5 [l0, l1, l2, l3, l4, l5, l6, l7, l8] (x :: r) (σ, sz, k, c) = (zk_isr x ∧ zk_run E (zk_VT E) M_X10_areJoined (C_X10_areJoined E) P PX K n 6 [l0, l1, zk_kl l2, some (x), l4, l5, l6, l7, l8] r (σ, sz, k, c))) ∧
  (∀ (n : Nat) (l1 l2 l3 l4 l5 l6 l7 l8 : Option Value) (y0 : Value) (r : List Value) (σ : zk_S) (sz k c : Nat), zk_run E (zk_VT E) M_X10_areJoined (C_X10_areJoined E) P PX K (n + 1) 6 [some y0, l1, l2, l3, l4, l5, l6, l7, l8] r (σ, sz, k, c) = (zk_isr y0 ∧ zk_run E (zk_VT E) M_X10_areJoined (C_X10_areJoined E) P PX K n 7 [some y0, l1, l2, l3, l4, l5, l6, l7, l8] (y0 :: r) (σ, sz, k, c))) ∧
  (∀ (n : Nat) (l0 l1 l3 l4 l5 l6 l7 l8 : Option Value) (y2 : Int32) (r : List Value) (σ : zk_S) (sz k c : Nat), zk_run E (zk_VT E) M_X10_areJoined (C_X10_areJoined E) P PX K (n + 1) 7 [l0, l1, some (.int y2), l3, l4, l5, l6, l7, l8] r (σ, sz, k, c) = zk_run E (zk_VT E) M_X10_areJoined (C_X10_areJoined E) P PX K n 8 [l0, l1, some (.int y2), l3, l4, l5, l6, l7, l8] (.int y2 :: r) (σ, sz, k, c)) ∧
  (∀ (n : Nat) (l0 l1 l2 l3 l4 l5 l6 l7 l8 : Option Value) (v0 : Value) (v1 : Value)  (σ : zk_S) (sz k c : Nat), zk_run E (zk_VT E) M_X10_areJoined (C_X10_areJoined E) P PX K (n + 1) 8 [l0, l1, l2, l3, l4, l5, l6, l7, l8] [v0, v1] (σ, sz, k, c) = (k + 1 ≤ 2 ∧ c + 6 ≤ 12 ∧ (zk_rv (zk_VT E) (fun ci => Nat.beq ci 9) (sp_X10_roomThere E)) [v1, v0] σ sz (fun v s2 z2 => zk_run E (zk_VT E) M_X10_areJoined (C_X10_areJoined E) P PX K n 11 [l0, l1, l2, l3, l4, l5, l6, l7, l8] (zk_psh v []) (s2, z2, k + 1, c + 6)) (fun X s2 z2 => PX X s2 z2))) ∧
  (∀ (n : Nat) (l0 l1 l2 l3 l4 l5 l6 l7 l8 : Option Value) (x : Value) (r : List Value) (σ : zk_S) (sz k c : Nat), zk_run E (zk_VT E) M_X10_areJoined (C_X10_areJoined E) P PX K (n + 1) 11 [l0, l1, l2, l3, l4, l5, l6, l7, l8] (x :: r) (σ, sz, k, c) = (zk_isr x ∧ zk_run E (zk_VT E) M_X10_areJoined (C_X10_areJoined E) P PX K n 13 [l0, l1, l2, zk_kl l3, some (x), l5, l6, l7, l8] r (σ, sz, k, c))) ∧
  (∀ (n : Nat) (l1 l2 l3 l4 l5 l6 l7 l8 : Option Value) (y0 : Value) (r : List Value) (σ : zk_S) (sz k c : Nat), zk_run E (zk_VT E) M_X10_areJoined (C_X10_areJoined E) P PX K (n + 1) 13 [some y0, l1, l2, l3, l4, l5, l6, l7, l8] r (σ, sz, k, c) = (zk_isr y0 ∧ zk_run E (zk_VT E) M_X10_areJoined (C_X10_areJoined E) P PX K n 14 [some y0, l1, l2, l3, l4, l5, l6, l7, l8] (y0 :: r) (σ, sz, k, c))) ∧
  (∀ (n : Nat) (l0 l1 l2 l3 l4 l5 l6 l7 l8 : Option Value) (a : Nat) (r : List Value) (σ : zk_S) (sz k c : Nat), zk_run E (zk_VT E) M_X10_areJoined (C_X10_areJoined E) P PX K (n + 1) 14 [l0, l1, l2, l3, l4, l5, l6, l7, l8] (.ref a :: r) (σ, sz, k, c) = zk_fld (zk_view E σ a) [9] 0 (fun v => zk_run E (zk_VT E) M_X10_areJoined (C_X10_areJoined E) P PX K n 17 [l0, l1, l2, l3, l4, l5, l6, l7, l8] (v :: r) (σ, sz, k, c))) ∧
  (∀ (n : Nat) (l0 l1 l2 l3 l4 l5 l6 l7 l8 : Option Value) (a : Nat) (r : List Value) (σ : zk_S) (sz k c : Nat), zk_run E (zk_VT E) M_X10_areJoined (C_X10_areJoined E) P PX K (n + 1) 17 [l0, l1, l2, l3, l4, l5, l6, l7, l8] (.ref a :: r) (σ, sz, k, c) = zk_fld (zk_view E σ a) [4] 1 (fun v => zk_run E (zk_VT E) M_X10_areJoined (C_X10_areJoined E) P PX K n 20 [l0, l1, l2, l3, l4, l5, l6, l7, l8] (v :: r) (σ, sz, k, c))) ∧
  (∀ (n : Nat) (l0 l1 l2 l3 l4 l5 l6 l7 l8 : Option Value) (x : Value) (r : List Value) (σ : zk_S) (sz k c : Nat), zk_run E (zk_VT E) M_X10_areJoined (C_X10_areJoined E) P PX K (n + 1) 20 [l0, l1, l2, l3, l4, l5, l6, l7, l8] (x :: r) (σ, sz, k, c) = (zk_isr x ∧ zk_run E (zk_VT E) M_X10_areJoined (C_X10_areJoined E) P PX K n 22 [l0, l1, l2, l3, zk_kl l4, some (x), l6, l7, l8] r (σ, sz, k, c))) ∧
  (∀ (n : Nat) (l0 l1 l2 l3 l4 l6 l7 l8 : Option Value) (y5 : Value) (r : List Value) (σ : zk_S) (sz k c : Nat), zk_run E (zk_VT E) M_X10_areJoined (C_X10_areJoined E) P PX K (n + 1) 22 [l0, l1, l2, l3, l4, some y5, l6, l7, l8] r (σ, sz, k, c) = (zk_isr y5 ∧ zk_run E (zk_VT E) M_X10_areJoined (C_X10_areJoined E) P PX K n 24 [l0, l1, l2, l3, l4, some y5, l6, l7, l8] (y5 :: r) (σ, sz, k, c))) ∧
  (∀ (n : Nat) (l0 l1 l2 l3 l4 l5 l6 l7 l8 : Option Value) (a : Nat) (r : List Value) (σ : zk_S) (sz k c : Nat), zk_run E (zk_VT E) M_X10_areJoined (C_X10_areJoined E) P PX K (n + 1) 24 [l0, l1, l2, l3, l4, l5, l6, l7, l8] (.ref a :: r) (σ, sz, k, c) = zk_lenq E (zk_view E σ a) (fun x => zk_run E (zk_VT E) M_X10_areJoined (C_X10_areJoined E) P PX K n 25 [l0, l1, l2, l3, l4, l5, l6, l7, l8] (.int x :: r) (σ, sz, k, c))) ∧
  (∀ (n : Nat) (l0 l1 l2 l3 l4 l5 l6 l7 l8 : Option Value) (x : Int32) (r : List Value) (σ : zk_S) (sz k c : Nat), zk_run E (zk_VT E) M_X10_areJoined (C_X10_areJoined E) P PX K (n + 1) 25 [l0, l1, l2, l3, l4, l5, l6, l7, l8] (.int x :: r) (σ, sz, k, c) = zk_run E (zk_VT E) M_X10_areJoined (C_X10_areJoined E) P PX K n 27 [l0, l1, l2, l3, l4, zk_kl l5, some (.int x), l7, l8] r (σ, sz, k, c)) ∧
  (∀ (n : Nat) (l0 l1 l2 l3 l4 l5 l6 l7 l8 : Option Value)  (r : List Value) (σ : zk_S) (sz k c : Nat), zk_run E (zk_VT E) M_X10_areJoined (C_X10_areJoined E) P PX K (n + 1) 27 [l0, l1, l2, l3, l4, l5, l6, l7, l8] r (σ, sz, k, c) = zk_run E (zk_VT E) M_X10_areJoined (C_X10_areJoined E) P PX K n 28 [l0, l1, l2, l3, l4, l5, l6, l7, l8] (.int (0) :: r) (σ, sz, k, c)) ∧
  (∀ (n : Nat) (l0 l1 l2 l3 l4 l5 l6 l7 l8 : Option Value) (x : Int32) (r : List Value) (σ : zk_S) (sz k c : Nat), zk_run E (zk_VT E) M_X10_areJoined (C_X10_areJoined E) P PX K (n + 1) 28 [l0, l1, l2, l3, l4, l5, l6, l7, l8] (.int x :: r) (σ, sz, k, c) = zk_run E (zk_VT E) M_X10_areJoined (C_X10_areJoined E) P PX K n 30 [l0, l1, l2, l3, l4, l5, zk_kl l6, some (.int x), l8] r (σ, sz, k, c)) ∧
  (∀ (n : Nat) (l0 l1 l2 l3 l4 l5 l6 l7 l8 : Option Value)  (r : List Value) (σ : zk_S) (sz k c : Nat), zk_run E (zk_VT E) M_X10_areJoined (C_X10_areJoined E) P PX K (n + 1) 30 [l0, l1, l2, l3, l4, l5, l6, l7, l8] r (σ, sz, k, c) = K 30 [l0, l1, l2, l3, l4, l5, l6, l7, l8] r (σ, sz, k, c)) ∧
  (∀ (n : Nat) (l0 l1 l2 l3 l4 l5 l7 l8 : Option Value) (y6 : Int32) (r : List Value) (σ : zk_S) (sz k c : Nat), zk_run E (zk_VT E) M_X10_areJoined (C_X10_areJoined E) P PX K (n + 1) 32 [l0, l1, l2, l3, l4, l5, some (.int y6), l7, l8] r (σ, sz, k, c) = zk_run E (zk_VT E) M_X10_areJoined (C_X10_areJoined E) P PX K n 34 [l0, l1, l2, l3, l4, l5, some (.int y6), l7, l8] (.int y6 :: r) (σ, sz, k, c)) ∧
  (∀ (n : Nat) (l0 l1 l2 l3 l4 l5 l6 l7 l8 : Option Value) (x y : Int32) (r : List Value) (σ : zk_S) (sz k c : Nat), zk_run E (zk_VT E) M_X10_areJoined (C_X10_areJoined E) P PX K (n + 1) 34 [l0, l1, l2, l3, l4, l5, l6, l7, l8] (.int y :: .int x :: r) (σ, sz, k, c) = ((y ≤ x → zk_run E (zk_VT E) M_X10_areJoined (C_X10_areJoined E) P PX K n 68 [l0, l1, l2, l3, l4, l5, l6, l7, l8] r (σ, sz, k, c)) ∧ (¬ (y ≤ x) → zk_run E (zk_VT E) M_X10_areJoined (C_X10_areJoined E) P PX K n 37 [l0, l1, l2, l3, l4, l5, l6, l7, l8] r (σ, sz, k, c)))) ∧
  (∀ (n : Nat) (l0 l1 l2 l3 l4 l6 l7 l8 : Option Value) (y5 : Value) (r : List Value) (σ : zk_S) (sz k c : Nat), zk_run E (zk_VT E) M_X10_areJoined (C_X10_areJoined E) P PX K (n + 1) 37 [l0, l1, l2, l3, l4, some y5, l6, l7, l8] r (σ, sz, k, c) = (zk_isr y5 ∧ zk_run E (zk_VT E) M_X10_areJoined (C_X10_areJoined E) P PX K n 39 [l0, l1, l2, l3, l4, some y5, l6, l7, l8] (y5 :: r) (σ, sz, k, c))) ∧
  (∀ (n : Nat) (l0 l1 l2 l3 l4 l5 l6 l8 : Option Value) (y7 : Int32) (r : List Value) (σ : zk_S) (sz k c : Nat), zk_run E (zk_VT E) M_X10_areJoined (C_X10_areJoined E) P PX K (n + 1) 39 [l0, l1, l2, l3, l4, l5, l6, some (.int y7), l8] r (σ, sz, k, c) = zk_run E (zk_VT E) M_X10_areJoined (C_X10_areJoined E) P PX K n 41 [l0, l1, l2, l3, l4, l5, l6, some (.int y7), l8] (.int y7 :: r) (σ, sz, k, c)) ∧
  (∀ (n : Nat) (l0 l1 l2 l3 l4 l5 l6 l7 l8 : Option Value) (a : Nat) (i : Int32) (r : List Value) (σ : zk_S) (sz k c : Nat), zk_run E (zk_VT E) M_X10_areJoined (C_X10_areJoined E) P PX K (n + 1) 41 [l0, l1, l2, l3, l4, l5, l6, l7, l8] (.int i :: .ref a :: r) (σ, sz, k, c) = zk_qld (zk_view E σ a) i [zk_ar E 3, zk_ar E 4, zk_ar E 5, zk_ar E 6] (fun x => (x = none → zk_run E (zk_VT E) M_X10_areJoined (C_X10_areJoined E) P PX K n 42 [l0, l1, l2, l3, l4, l5, l6, l7, l8] (.null :: r) (σ, sz, k, c)) ∧ ∀ b, x = some b → zk_run E (zk_VT E) M_X10_areJoined (C_X10_areJoined E) P PX K n 42 [l0, l1, l2, l3, l4, l5, l6, l7, l8] (.ref b :: r) (σ, sz, k, c))) ∧
  (∀ (n : Nat) (l0 l1 l2 l3 l4 l5 l6 l7 l8 : Option Value) (x : Value) (r : List Value) (σ : zk_S) (sz k c : Nat), zk_run E (zk_VT E) M_X10_areJoined (C_X10_areJoined E) P PX K (n + 1) 42 [l0, l1, l2, l3, l4, l5, l6, l7, l8] (x :: r) (σ, sz, k, c) = (zk_isr x ∧ zk_run E (zk_VT E) M_X10_areJoined (C_X10_areJoined E) P PX K n 44 [l0, l1, l2, l3, l4, l5, l6, zk_kl l7, some (x)] r (σ, sz, k, c))) ∧
  (∀ (n : Nat) (l0 l1 l2 l3 l4 l5 l6 l7 : Option Value) (y8 : Value) (r : List Value) (σ : zk_S) (sz k c : Nat), zk_run E (zk_VT E) M_X10_areJoined (C_X10_areJoined E) P PX K (n + 1) 44 [l0, l1, l2, l3, l4, l5, l6, l7, some y8] r (σ, sz, k, c) = (zk_isr y8 ∧ zk_run E (zk_VT E) M_X10_areJoined (C_X10_areJoined E) P PX K n 46 [l0, l1, l2, l3, l4, l5, l6, l7, some y8] (y8 :: r) (σ, sz, k, c))) ∧
  (∀ (n : Nat) (l0 l1 l2 l3 l4 l5 l6 l7 l8 : Option Value) (v : Value) (r : List Value) (σ : zk_S) (sz k c : Nat), zk_run E (zk_VT E) M_X10_areJoined (C_X10_areJoined E) P PX K (n + 1) 46 [l0, l1, l2, l3, l4, l5, l6, l7, l8] (v :: r) (σ, sz, k, c) = (zk_isr v ∧ (v = .null → zk_run E (zk_VT E) M_X10_areJoined (C_X10_areJoined E) P PX K n 62 [l0, l1, l2, l3, l4, l5, l6, l7, l8] r (σ, sz, k, c)) ∧ (¬ (v = .null) → zk_run E (zk_VT E) M_X10_areJoined (C_X10_areJoined E) P PX K n 49 [l0, l1, l2, l3, l4, l5, l6, l7, l8] r (σ, sz, k, c)))) ∧
  (∀ (n : Nat) (l0 l1 l2 l3 l4 l5 l6 l7 : Option Value) (y8 : Value) (r : List Value) (σ : zk_S) (sz k c : Nat), zk_run E (zk_VT E) M_X10_areJoined (C_X10_areJoined E) P PX K (n + 1) 49 [l0, l1, l2, l3, l4, l5, l6, l7, some y8] r (σ, sz, k, c) = (zk_isr y8 ∧ zk_run E (zk_VT E) M_X10_areJoined (C_X10_areJoined E) P PX K n 51 [l0, l1, l2, l3, l4, l5, l6, l7, some y8] (y8 :: r) (σ, sz, k, c))) ∧
  (∀ (n : Nat) (l0 l1 l2 l4 l5 l6 l7 l8 : Option Value) (y3 : Value) (r : List Value) (σ : zk_S) (sz k c : Nat), zk_run E (zk_VT E) M_X10_areJoined (C_X10_areJoined E) P PX K (n + 1) 51 [l0, l1, l2, some y3, l4, l5, l6, l7, l8] r (σ, sz, k, c) = (zk_isr y3 ∧ zk_run E (zk_VT E) M_X10_areJoined (C_X10_areJoined E) P PX K n 52 [l0, l1, l2, some y3, l4, l5, l6, l7, l8] (y3 :: r) (σ, sz, k, c))) ∧
  (∀ (n : Nat) (l0 l1 l2 l3 l5 l6 l7 l8 : Option Value) (y4 : Value) (r : List Value) (σ : zk_S) (sz k c : Nat), zk_run E (zk_VT E) M_X10_areJoined (C_X10_areJoined E) P PX K (n + 1) 52 [l0, l1, l2, l3, some y4, l5, l6, l7, l8] r (σ, sz, k, c) = (zk_isr y4 ∧ zk_run E (zk_VT E) M_X10_areJoined (C_X10_areJoined E) P PX K n 54 [l0, l1, l2, l3, some y4, l5, l6, l7, l8] (y4 :: r) (σ, sz, k, c))) ∧
  (∀ (n : Nat) (l0 l1 l2 l3 l4 l5 l6 l7 l8 : Option Value) (v0 : Value) (v1 : Value) (v2 : Value)  (σ : zk_S) (sz k c : Nat), zk_run E (zk_VT E) M_X10_areJoined (C_X10_areJoined E) P PX K (n + 1) 54 [l0, l1, l2, l3, l4, l5, l6, l7, l8] [v0, v1, v2] (σ, sz, k, c) = (k + 0 ≤ 2 ∧ c + 0 ≤ 12 ∧ (zk_rv (zk_VT E) (fun ci => Nat.beq ci 1) (sp_X1_isBetween E)) [v2, v1, v0] σ sz (fun v s2 z2 => zk_run E (zk_VT E) M_X10_areJoined (C_X10_areJoined E) P PX K n 57 [l0, l1, l2, l3, l4, l5, l6, l7, l8] (zk_psh v []) (s2, z2, k + 0, c + 0)) (fun X s2 z2 => PX X s2 z2))) ∧
  (∀ (n : Nat) (l0 l1 l2 l3 l4 l5 l6 l7 l8 : Option Value) (x : Int32) (r : List Value) (σ : zk_S) (sz k c : Nat), zk_run E (zk_VT E) M_X10_areJoined (C_X10_areJoined E) P PX K (n + 1) 57 [l0, l1, l2, l3, l4, l5, l6, l7, l8] (.int x :: r) (σ, sz, k, c) = ((x = 0 → zk_run E (zk_VT E) M_X10_areJoined (C_X10_areJoined E) P PX K n 62 [l0, l1, l2, l3, l4, l5, l6, l7, l8] r (σ, sz, k, c)) ∧ (¬ (x = 0) → zk_run E (zk_VT E) M_X10_areJoined (C_X10_areJoined E) P PX K n 60 [l0, l1, l2, l3, l4, l5, l6, l7, l8] r (σ, sz, k, c)))) ∧
  (∀ (n : Nat) (l0 l1 l2 l3 l4 l5 l6 l7 l8 : Option Value)  (r : List Value) (σ : zk_S) (sz k c : Nat), zk_run E (zk_VT E) M_X10_areJoined (C_X10_areJoined E) P PX K (n + 1) 60 [l0, l1, l2, l3, l4, l5, l6, l7, l8] r (σ, sz, k, c) = zk_run E (zk_VT E) M_X10_areJoined (C_X10_areJoined E) P PX K n 61 [l0, l1, l2, l3, l4, l5, l6, l7, l8] (.int (1) :: r) (σ, sz, k, c)) ∧
  (∀ (n : Nat) (l0 l1 l2 l3 l4 l5 l6 l7 l8 : Option Value) (x : Int32)  (σ : zk_S) (sz k c : Nat), zk_run E (zk_VT E) M_X10_areJoined (C_X10_areJoined E) P PX K (n + 1) 61 [l0, l1, l2, l3, l4, l5, l6, l7, l8] [.int x] (σ, sz, k, c) = (zk_nok (some (.boolean)) x ∧ P (some (.int x)) σ sz ∧ k ≤ 2 ∧ c ≤ 12)) ∧
  (∀ (n : Nat) (l0 l1 l2 l3 l4 l5 l6 l8 : Option Value) (y7 : Int32) (r : List Value) (σ : zk_S) (sz k c : Nat), zk_run E (zk_VT E) M_X10_areJoined (C_X10_areJoined E) P PX K (n + 1) 62 [l0, l1, l2, l3, l4, l5, l6, some (.int y7), l8] r (σ, sz, k, c) = zk_run E (zk_VT E) M_X10_areJoined (C_X10_areJoined E) P PX K n 65 [l0, l1, l2, l3, l4, l5, zk_kl l6, some (.int (y7 + 1)), l8] r (σ, sz, k, c)) ∧
  (∀ (n : Nat) (l0 l1 l2 l3 l4 l5 l6 l7 l8 : Option Value)  (r : List Value) (σ : zk_S) (sz k c : Nat), zk_run E (zk_VT E) M_X10_areJoined (C_X10_areJoined E) P PX K (n + 1) 65 [l0, l1, l2, l3, l4, l5, l6, l7, l8] r (σ, sz, k, c) = zk_run E (zk_VT E) M_X10_areJoined (C_X10_areJoined E) P PX K n 30 [l0, l1, l2, l3, l4, l5, l6, l7, l8] r (σ, sz, k, c)) ∧
  (∀ (n : Nat) (l0 l1 l2 l3 l4 l5 l6 l7 l8 : Option Value)  (r : List Value) (σ : zk_S) (sz k c : Nat), zk_run E (zk_VT E) M_X10_areJoined (C_X10_areJoined E) P PX K (n + 1) 68 [l0, l1, l2, l3, l4, l5, l6, l7, l8] r (σ, sz, k, c) = zk_run E (zk_VT E) M_X10_areJoined (C_X10_areJoined E) P PX K n 69 [l0, l1, l2, l3, l4, l5, l6, l7, l8] (.int (0) :: r) (σ, sz, k, c)) ∧
  (∀ (n : Nat) (l0 l1 l2 l3 l4 l5 l6 l7 l8 : Option Value) (x : Int32)  (σ : zk_S) (sz k c : Nat), zk_run E (zk_VT E) M_X10_areJoined (C_X10_areJoined E) P PX K (n + 1) 69 [l0, l1, l2, l3, l4, l5, l6, l7, l8] [.int x] (σ, sz, k, c) = (zk_nok (some (.boolean)) x ∧ P (some (.int x)) σ sz ∧ k ≤ 2 ∧ c ≤ 12)) ∧
  (∀ (n : Nat) (l0 l1 l2 l3 l4 l5 l6 l7 l8 : Option Value) (r : List Value) (w : zk_W zk_S), zk_go E (zk_VT E) M_X10_areJoined (C_X10_areJoined E) P PX K n 0 [l0, l1, l2, l3, l4, l5, l6, l7, l8] r w = zk_run E (zk_VT E) M_X10_areJoined (C_X10_areJoined E) P PX K (n + 1) 0 [l0, l1, l2, l3, l4, l5, l6, l7, l8] r w) ∧
  (∀ (n : Nat) (l0 l1 l2 l3 l4 l5 l6 l8 : Option Value) (y7 : Int32) (r : List Value) (σ : zk_S) (sz k c : Nat), zk_go E (zk_VT E) M_X10_areJoined (C_X10_areJoined E) P PX K n 30 [l0, l1, l2, l3, l4, l5, l6, some (.int y7), l8] r (σ, sz, k, c) = zk_run E (zk_VT E) M_X10_areJoined (C_X10_areJoined E) P PX K n 32 [l0, l1, l2, l3, l4, l5, l6, some (.int y7), l8] (.int y7 :: r) (σ, sz, k, c)) := ⟨by intros; rfl, by intros; rfl, by intros; rfl, by intros; rfl, by intros; rfl, by intros; rfl, by intros; rfl, by intros; rfl, by intros; rfl, by intros; rfl, by intros; rfl, by intros; rfl, by intros; rfl, by intros; rfl, by intros; rfl, by intros; rfl, by intros; rfl, by intros; rfl, by intros; rfl, by intros; rfl, by intros; rfl, by intros; rfl, by intros; rfl, by intros; rfl, by intros; rfl, by intros; rfl, by intros; rfl, by intros; rfl, by intros; rfl, by intros; rfl, by intros; rfl, by intros; rfl, by intros; rfl, by intros; rfl, by intros; rfl, by intros; rfl, by intros; rfl, by intros; rfl, by intros; rfl⟩
theorem vc_X10_areJoined (E : zk_E) : zk_VC E (zk_VT E) M_X10_areJoined (C_X10_areJoined E) 9 (sp_X10_areJoined E) := by
  intro av σ sz P PX h
  obtain ⟨J, N, Q, O, U⟩ := σ
  unfold sp_X10_areJoined at h
  split at h
  case h_2 => exact h.elim
  rename_i a0 x y
  obtain ⟨rfl, h⟩ := h
  refine ⟨Nat.le_of_ble_eq_true rfl, fun G hG => ?_⟩
  change G 0 [some (.ref (zk_ad E 0)), some (.int x), some (.int y), none, none, none, none, none, none] [] ((J, N, Q, O, U), sz, 0, 0)
  try dsimp only at h
  obtain ⟨J1, N1, ⟨hmi, hxr, hrk⟩, h⟩ := h
  have c40 : Int32.ofNat 40 = nI 40 := rfl
  rcases h with ⟨j, hj, rfl, h⟩ | ⟨hr, h⟩
  · obtain ⟨b, hb, hbo, hOb⟩ := hxr.2.1.room hmi hj
    have hb : Q 2 j = some b := hb
    have hj20 := hj.lt hmi
    have inj : m_isIn (nI j) 0 19 = true := n_isIn (by decide) hj20 (by decide)
    have clj : (nI j).toNatClampNeg = j := n_cl (by omega)
    rcases h with ⟨k, hk, rfl, h⟩ | ⟨hr, h⟩
    · obtain ⟨c, hc, hco, hOc⟩ := hxr.2.1.room hmi hk
      have hc : Q 2 k = some c := hc
      have hk20 := hk.lt hmi
      have ink : m_isIn (nI k) 0 19 = true := n_isIn (by decide) hk20 (by decide)
      have clk : (nI k).toNatClampNeg = k := n_cl (by omega)
      have hd40 := hmi.1.2.1.2
      have eq0 : m_ex (d_jn Q O b c) 40 = a_join J1 N1 (nI j) (nI k) := by
        unfold a_join
        have key : ∀ d, d < 40 → d_jn Q O b c d = (decide (d < m_nd J1) && m_jf N1 (nI j) (nI k) d) := fun d hd => by
          unfold d_jn m_jf
          rcases hxr.2.2.1 d hd with ⟨a, p, h0, h1, -, -, h4, -⟩ | ⟨h0, h1⟩
          · have h1 : Q 3 d = some a := h1
            have h4 : O a = some (xdr N1 Q (fl0 N1) d p) := h4
            rw [h1, decide_eq_true h0.1, Bool.true_and, decide_eq_true h0.2, Bool.true_and]
            dsimp only
            rw [h4]
            unfold x_bt xdr
            simp only [fR_X]
            rcases (hmi.2.2.1 d h0.1).1 with z | ⟨r, r1, r2, r3⟩
            · exact absurd z h0.2
            · have q1 := hxr.2.1.rqe hmi (x := N1 30 d) (Or.inr ⟨r, r1, r2⟩) hj hb
              have q2 := hxr.2.1.rqe hmi (x := N1 31 d) (r3.imp id (fun ⟨q, a1, a2, a3⟩ => ⟨q, a1, a3⟩)) hj hb
              have q3 := hxr.2.1.rqe hmi (x := N1 30 d) (Or.inr ⟨r, r1, r2⟩) hk hc
              have q4 := hxr.2.1.rqe hmi (x := N1 31 d) (r3.imp id (fun ⟨q, a1, a2, a3⟩ => ⟨q, a1, a3⟩)) hk hc
              have q1 : (rq Q (N1 30 d) = some b) = (N1 30 d = nI j) := q1
              have q2 : (rq Q (N1 31 d) = some b) = (N1 31 d = nI j) := q2
              have q3 : (rq Q (N1 30 d) = some c) = (N1 30 d = nI k) := q3
              have q4 : (rq Q (N1 31 d) = some c) = (N1 31 d = nI k) := q4
              simp only [q1, q2, q3, q4]
          · have h1 : Q 3 d = none := h1
            rw [h1]
            dsimp only
            by_cases w : d < m_nd J1
            · have : N1 30 d = -2 := Decidable.byContradiction fun z => h0 ⟨w, z⟩
              rw [decide_eq_false (not_not_intro this), Bool.false_and, Bool.and_false]
            · rw [decide_eq_false w, Bool.false_and]
        rw [show 40 = m_nd J1 + (40 - m_nd J1) by omega, m_ex_skip (p := d_jn Q O b c)]
        · exact m_ex_cong (fun k hk => by rw [key k (by omega), decide_eq_true hk, Bool.true_and])
        · intro i h1 h2
          rw [key i (by omega), decide_eq_false (by omega), Bool.false_and]
      rw [← eq0] at h
      have loop : ∀ m i l8, i + m = 40 → m_ex (d_jn Q O b c) i = false → G 30 [some (.ref (zk_ad E 0)), some (.int (nI j)), some (.int (nI k)), some (.ref b), some (.ref c), some (.ref (zk_ad E 3)), some (.int (nI 40)), some (.int (nI i)), l8] [] ((J, N, Q, O, U), sz, 2, 12) := by
        intro m
        induction m with
        | zero =>
          intro i l8 hi hn
          have c1 : nI 40 ≤ nI i := nI_le (by omega) (by omega)
          have ei : i = 40 := by omega
          subst ei
          rw [hn] at h
          (refine hG 900 _ _ _ _ ?_; simp only [r_X10_areJoined, zk_kl_none, zk_kl_int, zk_kl_ref, zk_kl_null, zk_kl_long, zk_kl_rf, zk_isr_ref, zk_isr_null, zk_isr_rf9, zk_c1_int, zk_c1_ref, zk_c1_null, zk_c1_rf, zk_psh_some, zk_psh_none, zk_nok_int, zk_nok_bool0, zk_nok_bool1, zk_nok_b, zk_fok_0, zk_fok_1, zk_fok_2, zk_fok_n, zk_fok_rf, zb_f, zb_p, zb_i, zb_a, zb_s, zk_nth_0, zk_nth_s, zk_fld_o, zk_put_o, zk_rv_eq, zk_ri_eq, zk_is_o, List.mem_cons, List.not_mem_nil, or_false, false_or, or_true, true_or, and_true, true_and, not_false_iff, not_true_eq_false, true_implies, false_implies, imp_self, implies_true, forall_const, zk_lit, zk_uj_ap, zk_un_ap, zk_un_un, zk_uj_uj, Nat.reduceEqDiff, eq_self, zk_bq, Bool.true_or, Bool.false_or, Nat.le_refl, Nat.zero_add, Nat.add_zero, Nat.reduceAdd, Nat.reduceLeDiff, Nat.le_zero_eq, and_self, and_false, false_and, ite_true, ite_false, Nat.zero_le, List.length_cons, List.length_nil, Option.some.injEq, forall_eq', reduceCtorEq, c1])
          exact h
        | succ m ih =>
          intro i l8 hi hn
          have c1 : ¬ nI 40 ≤ nI i := nI_ge (by omega) (by omega)
          have hin : vp_in (nI i) 40 := n_in (by omega) (by decide)
          have hcl : (nI i).toNatClampNeg = i := n_cl (by omega)
          have ih2 := fun (w : d_jn Q O b c i = false) l8 => ih (i + 1) l8 (by omega) (by rw [m_ex, hn, w]; rfl)
          have hw : d_jn Q O b c i = true → P (some (.int 1)) (J, N, Q, O, U) sz := fun w => by
            rw [m_ex_true w (by omega)] at h
            exact h
          cases hd : Q 3 i with
          | none =>
            have h3 := ih2 (by unfold d_jn; rw [hd])
            (refine hG 900 _ _ _ _ ?_; simp only [r_X10_areJoined, zk_kl_none, zk_kl_int, zk_kl_ref, zk_kl_null, zk_kl_long, zk_kl_rf, zk_isr_ref, zk_isr_null, zk_isr_rf9, zk_c1_int, zk_c1_ref, zk_c1_null, zk_c1_rf, zk_psh_some, zk_psh_none, zk_nok_int, zk_nok_bool0, zk_nok_bool1, zk_nok_b, zk_fok_0, zk_fok_1, zk_fok_2, zk_fok_n, zk_fok_rf, zb_f, zb_p, zb_i, zb_a, zb_s, zk_nth_0, zk_nth_s, zk_fld_o, zk_put_o, zk_rv_eq, zk_ri_eq, zk_is_o, List.mem_cons, List.not_mem_nil, or_false, false_or, or_true, true_or, and_true, true_and, not_false_iff, not_true_eq_false, true_implies, false_implies, imp_self, implies_true, forall_const, zk_lit, zk_uj_ap, zk_un_ap, zk_un_un, zk_uj_uj, Nat.reduceEqDiff, eq_self, zk_bq, Bool.true_or, Bool.false_or, Nat.le_refl, Nat.zero_add, Nat.add_zero, Nat.reduceAdd, Nat.reduceLeDiff, Nat.le_zero_eq, and_self, and_false, false_and, ite_true, ite_false, Nat.zero_le, List.length_cons, List.length_nil, Option.some.injEq, forall_eq', reduceCtorEq, c1, hin, hcl, hd, n_succ])
            exact h3 _
          | some a =>
            obtain ⟨ha1, f, t, mx, my, ln, fw, sh, p, hOa, -, -⟩ := hxr.2.2.1.dok i (by omega) a hd
            have hOa : O a = some (cX 1 f t mx my ln fw sh [.ref p]) := hOa
            have hD : isD (O a) := by rw [hOa]; exact ⟨_, _, _, _, _, _, _, _, rfl⟩
            have ia : ∀ kk, zk_is (O a) kk = (kk 1 = true) := fun kk => by rw [hOa]; rfl
            have e0 : d_jn Q O b c i = x_bt (O a) b c := by unfold d_jn; rw [hd]
            rw [e0] at ih2 hw
            cases z : x_bt (O a) b c with
            | true =>
              have h3 := hw z
              (refine hG 900 _ _ _ _ ?_; simp only [r_X10_areJoined, zk_kl_none, zk_kl_int, zk_kl_ref, zk_kl_null, zk_kl_long, zk_kl_rf, zk_isr_ref, zk_isr_null, zk_isr_rf9, zk_c1_int, zk_c1_ref, zk_c1_null, zk_c1_rf, zk_psh_some, zk_psh_none, zk_nok_int, zk_nok_bool0, zk_nok_bool1, zk_nok_b, zk_fok_0, zk_fok_1, zk_fok_2, zk_fok_n, zk_fok_rf, zb_f, zb_p, zb_i, zb_a, zb_s, zk_nth_0, zk_nth_s, zk_fld_o, zk_put_o, zk_rv_eq, zk_ri_eq, zk_is_o, List.mem_cons, List.not_mem_nil, or_false, false_or, or_true, true_or, and_true, true_and, not_false_iff, not_true_eq_false, true_implies, false_implies, imp_self, implies_true, forall_const, zk_lit, zk_uj_ap, zk_un_ap, zk_un_un, zk_uj_uj, Nat.reduceEqDiff, eq_self, zk_bq, Bool.true_or, Bool.false_or, Nat.le_refl, Nat.zero_add, Nat.add_zero, Nat.reduceAdd, Nat.reduceLeDiff, Nat.le_zero_eq, and_self, and_false, false_and, ite_true, ite_false, Nat.zero_le, List.length_cons, List.length_nil, Option.some.injEq, forall_eq', reduceCtorEq, c1, hin, hcl, hd, zk_vd ha1, ia, spe_X1_isBetween, ha1, hD, z, zk_b0, Bool.true_eq_false])
              exact h3
            | false =>
              have h3 := ih2 z
              (refine hG 900 _ _ _ _ ?_; simp only [r_X10_areJoined, zk_kl_none, zk_kl_int, zk_kl_ref, zk_kl_null, zk_kl_long, zk_kl_rf, zk_isr_ref, zk_isr_null, zk_isr_rf9, zk_c1_int, zk_c1_ref, zk_c1_null, zk_c1_rf, zk_psh_some, zk_psh_none, zk_nok_int, zk_nok_bool0, zk_nok_bool1, zk_nok_b, zk_fok_0, zk_fok_1, zk_fok_2, zk_fok_n, zk_fok_rf, zb_f, zb_p, zb_i, zb_a, zb_s, zk_nth_0, zk_nth_s, zk_fld_o, zk_put_o, zk_rv_eq, zk_ri_eq, zk_is_o, List.mem_cons, List.not_mem_nil, or_false, false_or, or_true, true_or, and_true, true_and, not_false_iff, not_true_eq_false, true_implies, false_implies, imp_self, implies_true, forall_const, zk_lit, zk_uj_ap, zk_un_ap, zk_un_un, zk_uj_uj, Nat.reduceEqDiff, eq_self, zk_bq, Bool.true_or, Bool.false_or, Nat.le_refl, Nat.zero_add, Nat.add_zero, Nat.reduceAdd, Nat.reduceLeDiff, Nat.le_zero_eq, and_self, and_false, false_and, ite_true, ite_false, Nat.zero_le, List.length_cons, List.length_nil, Option.some.injEq, forall_eq', reduceCtorEq, c1, hin, hcl, hd, zk_vd ha1, ia, spe_X1_isBetween, ha1, hD, z, zk_b0, n_succ])
              exact h3 _
      have l0 := loop 40 0 none (by omega) rfl
      (refine hG 900 _ _ _ _ ?_; simp only [r_X10_areJoined, zk_kl_none, zk_kl_int, zk_kl_ref, zk_kl_null, zk_kl_long, zk_kl_rf, zk_isr_ref, zk_isr_null, zk_isr_rf9, zk_c1_int, zk_c1_ref, zk_c1_null, zk_c1_rf, zk_psh_some, zk_psh_none, zk_nok_int, zk_nok_bool0, zk_nok_bool1, zk_nok_b, zk_fok_0, zk_fok_1, zk_fok_2, zk_fok_n, zk_fok_rf, zb_f, zb_p, zb_i, zb_a, zb_s, zk_nth_0, zk_nth_s, zk_fld_o, zk_put_o, zk_rv_eq, zk_ri_eq, zk_is_o, List.mem_cons, List.not_mem_nil, or_false, false_or, or_true, true_or, and_true, true_and, not_false_iff, not_true_eq_false, true_implies, false_implies, imp_self, implies_true, forall_const, zk_lit, zk_uj_ap, zk_un_ap, zk_un_un, zk_uj_uj, Nat.reduceEqDiff, eq_self, zk_bq, Bool.true_or, Bool.false_or, Nat.le_refl, Nat.zero_add, Nat.add_zero, Nat.reduceAdd, Nat.reduceLeDiff, Nat.le_zero_eq, and_self, and_false, false_and, ite_true, ite_false, Nat.zero_le, List.length_cons, List.length_nil, Option.some.injEq, forall_eq', reduceCtorEq, spe_X10_roomThere, inj, clj, hb, ink, clk, hc, Bool.true_eq_false, c40])
      exact l0
    · rcases hxr.noroom hmi.1 hr with q | ⟨q, q2⟩
      · (refine hG 900 _ _ _ _ ?_; simp only [r_X10_areJoined, zk_kl_none, zk_kl_int, zk_kl_ref, zk_kl_null, zk_kl_long, zk_kl_rf, zk_isr_ref, zk_isr_null, zk_isr_rf9, zk_c1_int, zk_c1_ref, zk_c1_null, zk_c1_rf, zk_psh_some, zk_psh_none, zk_nok_int, zk_nok_bool0, zk_nok_bool1, zk_nok_b, zk_fok_0, zk_fok_1, zk_fok_2, zk_fok_n, zk_fok_rf, zb_f, zb_p, zb_i, zb_a, zb_s, zk_nth_0, zk_nth_s, zk_fld_o, zk_put_o, zk_rv_eq, zk_ri_eq, zk_is_o, List.mem_cons, List.not_mem_nil, or_false, false_or, or_true, true_or, and_true, true_and, not_false_iff, not_true_eq_false, true_implies, false_implies, imp_self, implies_true, forall_const, zk_lit, zk_uj_ap, zk_un_ap, zk_un_un, zk_uj_uj, Nat.reduceEqDiff, eq_self, zk_bq, Bool.true_or, Bool.false_or, Nat.le_refl, Nat.zero_add, Nat.add_zero, Nat.reduceAdd, Nat.reduceLeDiff, Nat.le_zero_eq, and_self, and_false, false_and, ite_true, ite_false, Nat.zero_le, List.length_cons, List.length_nil, Option.some.injEq, forall_eq', reduceCtorEq, spe_X10_roomThere, inj, clj, hb, Bool.true_eq_false, q, Bool.false_eq_true])
        exact h
      · (refine hG 900 _ _ _ _ ?_; simp only [r_X10_areJoined, zk_kl_none, zk_kl_int, zk_kl_ref, zk_kl_null, zk_kl_long, zk_kl_rf, zk_isr_ref, zk_isr_null, zk_isr_rf9, zk_c1_int, zk_c1_ref, zk_c1_null, zk_c1_rf, zk_psh_some, zk_psh_none, zk_nok_int, zk_nok_bool0, zk_nok_bool1, zk_nok_b, zk_fok_0, zk_fok_1, zk_fok_2, zk_fok_n, zk_fok_rf, zb_f, zb_p, zb_i, zb_a, zb_s, zk_nth_0, zk_nth_s, zk_fld_o, zk_put_o, zk_rv_eq, zk_ri_eq, zk_is_o, List.mem_cons, List.not_mem_nil, or_false, false_or, or_true, true_or, and_true, true_and, not_false_iff, not_true_eq_false, true_implies, false_implies, imp_self, implies_true, forall_const, zk_lit, zk_uj_ap, zk_un_ap, zk_un_un, zk_uj_uj, Nat.reduceEqDiff, eq_self, zk_bq, Bool.true_or, Bool.false_or, Nat.le_refl, Nat.zero_add, Nat.add_zero, Nat.reduceAdd, Nat.reduceLeDiff, Nat.le_zero_eq, and_self, and_false, false_and, ite_true, ite_false, Nat.zero_le, List.length_cons, List.length_nil, Option.some.injEq, forall_eq', reduceCtorEq, spe_X10_roomThere, inj, clj, hb, Bool.true_eq_false, q, q2])
        exact h
  · rcases hxr.noroom hmi.1 hr with q | ⟨q, q2⟩
    · (refine hG 900 _ _ _ _ ?_; simp only [r_X10_areJoined, zk_kl_none, zk_kl_int, zk_kl_ref, zk_kl_null, zk_kl_long, zk_kl_rf, zk_isr_ref, zk_isr_null, zk_isr_rf9, zk_c1_int, zk_c1_ref, zk_c1_null, zk_c1_rf, zk_psh_some, zk_psh_none, zk_nok_int, zk_nok_bool0, zk_nok_bool1, zk_nok_b, zk_fok_0, zk_fok_1, zk_fok_2, zk_fok_n, zk_fok_rf, zb_f, zb_p, zb_i, zb_a, zb_s, zk_nth_0, zk_nth_s, zk_fld_o, zk_put_o, zk_rv_eq, zk_ri_eq, zk_is_o, List.mem_cons, List.not_mem_nil, or_false, false_or, or_true, true_or, and_true, true_and, not_false_iff, not_true_eq_false, true_implies, false_implies, imp_self, implies_true, forall_const, zk_lit, zk_uj_ap, zk_un_ap, zk_un_un, zk_uj_uj, Nat.reduceEqDiff, eq_self, zk_bq, Bool.true_or, Bool.false_or, Nat.le_refl, Nat.zero_add, Nat.add_zero, Nat.reduceAdd, Nat.reduceLeDiff, Nat.le_zero_eq, and_self, and_false, false_and, ite_true, ite_false, Nat.zero_le, List.length_cons, List.length_nil, Option.some.injEq, forall_eq', reduceCtorEq, spe_X10_roomThere, q, Bool.false_eq_true])
      exact h
    · (refine hG 900 _ _ _ _ ?_; simp only [r_X10_areJoined, zk_kl_none, zk_kl_int, zk_kl_ref, zk_kl_null, zk_kl_long, zk_kl_rf, zk_isr_ref, zk_isr_null, zk_isr_rf9, zk_c1_int, zk_c1_ref, zk_c1_null, zk_c1_rf, zk_psh_some, zk_psh_none, zk_nok_int, zk_nok_bool0, zk_nok_bool1, zk_nok_b, zk_fok_0, zk_fok_1, zk_fok_2, zk_fok_n, zk_fok_rf, zb_f, zb_p, zb_i, zb_a, zb_s, zk_nth_0, zk_nth_s, zk_fld_o, zk_put_o, zk_rv_eq, zk_ri_eq, zk_is_o, List.mem_cons, List.not_mem_nil, or_false, false_or, or_true, true_or, and_true, true_and, not_false_iff, not_true_eq_false, true_implies, false_implies, imp_self, implies_true, forall_const, zk_lit, zk_uj_ap, zk_un_ap, zk_un_un, zk_uj_uj, Nat.reduceEqDiff, eq_self, zk_bq, Bool.true_or, Bool.false_or, Nat.le_refl, Nat.zero_add, Nat.add_zero, Nat.reduceAdd, Nat.reduceLeDiff, Nat.le_zero_eq, and_self, and_false, false_and, ite_true, ite_false, Nat.zero_le, List.length_cons, List.length_nil, Option.some.injEq, forall_eq', reduceCtorEq, spe_X10_roomThere, q, q2])
      exact h
theorem ct_X10_areJoined {l : Launch} (hl : l.stackTraces = false) (E : zk_E) : zk_C l E (zk_VT E) yX10_areJoined cX10_areJoined 9 (some (.boolean)) rm_X10_areJoined (sp_X10_areJoined E) := by
  refine zk_meth (M := M_X10_areJoined) (C := C_X10_areJoined E) hl (by decide +kernel) rfl (fun _ _ => rfl) (zk_VT_ok E) MO_X10_areJoined TO_X10_areJoined THo_X10_areJoined ?_ (vc_X10_areJoined E)
  exact fun p e s m args below meth c X pc n mc ms sp2 h => by
    have h2 := zk_lka_mem h
    simp only [List.mem_cons, List.not_mem_nil, or_false, Prod.mk.injEq] at h2
    rcases h2 with ⟨rfl, rfl, rfl, rfl, rfl⟩ | ⟨rfl, rfl, rfl, rfl, rfl⟩ | ⟨rfl, rfl, rfl, rfl, rfl⟩
    · exact zk_coV (idx := 76) X (ct_X10_roomThere hl E) (List.forall_mem_cons.mpr ⟨zk_wi 550 (by decide +kernel) rfl, List.forall_mem_cons.mpr ⟨zk_wi 552 (by decide +kernel) rfl, List.forall_mem_cons.mpr ⟨zk_wp 7 (by decide +kernel) rfl, List.forall_mem_cons.mpr ⟨zk_wi 1 (by decide +kernel) rfl, List.forall_mem_cons.mpr ⟨zk_wi 553 (by decide +kernel) rfl, fun _ h => absurd h List.not_mem_nil⟩⟩⟩⟩⟩) (fun ci h => by
      have h := Nat.eq_of_beq_eq_true h
      subst h
      exact ⟨_, _, rfl⟩) (by decide +kernel) ⟨by decide, by decide, by decide +kernel⟩ ⟨by decide, by decide⟩
    · exact zk_coV (idx := 76) X (ct_X10_roomThere hl E) (List.forall_mem_cons.mpr ⟨zk_wi 550 (by decide +kernel) rfl, List.forall_mem_cons.mpr ⟨zk_wi 552 (by decide +kernel) rfl, List.forall_mem_cons.mpr ⟨zk_wp 7 (by decide +kernel) rfl, List.forall_mem_cons.mpr ⟨zk_wi 1 (by decide +kernel) rfl, List.forall_mem_cons.mpr ⟨zk_wi 553 (by decide +kernel) rfl, fun _ h => absurd h List.not_mem_nil⟩⟩⟩⟩⟩) (fun ci h => by
      have h := Nat.eq_of_beq_eq_true h
      subst h
      exact ⟨_, _, rfl⟩) (by decide +kernel) ⟨by decide, by decide, by decide +kernel⟩ ⟨by decide, by decide⟩
    · exact zk_coV (idx := 194) X (ct_X1_isBetween hl E) (List.forall_mem_cons.mpr ⟨zk_wi 822 (by decide +kernel) rfl, List.forall_mem_cons.mpr ⟨zk_wi 823 (by decide +kernel) rfl, List.forall_mem_cons.mpr ⟨zk_wi 824 (by decide +kernel) rfl, List.forall_mem_cons.mpr ⟨zk_wi 17 (by decide +kernel) rfl, List.forall_mem_cons.mpr ⟨zk_wi 825 (by decide +kernel) rfl, fun _ h => absurd h List.not_mem_nil⟩⟩⟩⟩⟩) (fun ci h => by
      have h := Nat.eq_of_beq_eq_true h
      subst h
      exact ⟨_, _, rfl⟩) (by decide +kernel) ⟨by decide, by decide, by decide +kernel⟩ ⟨by decide, by decide⟩

