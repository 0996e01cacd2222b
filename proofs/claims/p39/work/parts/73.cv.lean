/-! the class: its questions of time and faults -/
theorem CF.same {J N J1 N1 J2 N2 : Nat → Nat → Int32} (h : CF J N J1 N1) (h4 : J2 0 4 = J1 0 4) (h3 : J2 18 3 = J1 18 3) (hn : ∀ o, (8 ≤ o ∧ o ≤ 14) ∨ (19 ≤ o ∧ o ≤ 21) → N2 o = N1 o) : CF J N J2 N2 := by
  refine ⟨h4.trans h.1, h.2.1.same (fun o h1 h2 => hn o (Or.inl ⟨h1, h2⟩)), h3.trans h.2.2.1, fun i hi => ?_⟩
  rw [hn 19 (by omega), hn 20 (by omega), hn 21 (by omega)]
  exact h.2.2.2 i hi
theorem CF.un {J N J1 N1 : Nat → Nat → Int32} (h : CF J N J1 N1) {A B : Nat → Int32} : CF J N J1 (zk_un (zk_un N1 17 B) 16 A) := h.same rfl rfl (fun o ho => by unfold zk_un; rw [if_neg (by omega), if_neg (by omega)])
def sp_X10_timeOut (E : zk_E) : zk_Sp zk_S := fun av σ sz P PX => match av with
  | [.ref a] => a = zk_ad E 0 ∧ ∃ J N, IC E sz σ J N ∧ ZC J N σ sz (some (.int (a_time J N (-1) 0))) P
  | _ => False
theorem spe_X10_timeOut (E : zk_E) (a : Nat) (σ : zk_S) (sz : Nat) (P : zk_P zk_S) (PX : zk_X zk_S) : sp_X10_timeOut E [.ref a] σ sz P PX = (a = zk_ad E 0 ∧ ∃ J N, IC E sz σ J N ∧ ZC J N σ sz (some (.int (a_time J N (-1) 0))) P) := propext Iff.rfl
def C_X10_timeOut (E : zk_E) : zk_Cl zk_S := zk_lka [(1, 1, 0, 0, zk_rv (zk_VT E) (fun ci => Nat.beq ci 9) (sp_X10_reckon E)), (16, 3, 0, 0, zk_rv (zk_VT E) (fun ci => Nat.beq ci 0) (sp_X0_ticksTillOut E))]
theorem r_X10_timeOut (E : zk_E) (P : zk_P zk_S) (PX : zk_X zk_S) (K : Nat → zk_L → List Value → zk_W zk_S → Prop) : (∀ (n : Nat)  (y0 : Value) (r : List Value) (σ : zk_S) (sz k c : Nat), zk_run E (zk_VT E) M_X10_timeOut (C_X10_timeOut E) P PX K (n + 1) 0 [some y0] r (σ, sz, k, c) = (zk_isr y0 ∧ zk_run E (zk_VT E) M_X10_timeOut (C_X10_timeOut E) P PX K n 1 [some y0] (y0 :: r) (σ, sz, k, c))) ∧
  (∀ (n : Nat) (l0 : Option Value) (v0 : Value)  (σ : zk_S) (sz k c : Nat), zk_run E (zk_VT E) M_X10_timeOut (C_X10_timeOut E) P PX K (n + 1) 1 [l0] [v0] (σ, sz, k, c) = (k + 0 ≤ 0 ∧ c + 0 ≤ 0 ∧ (zk_rv (zk_VT E) (fun ci => Nat.beq ci 9) (sp_X10_reckon E)) [v0] σ sz (fun v s2 z2 => zk_run E (zk_VT E) M_X10_timeOut (C_X10_timeOut E) P PX K n 4 [l0] (zk_psh v []) (s2, z2, k + 0, c + 0)) (fun X s2 z2 => PX X s2 z2))) ∧
  (∀ (n : Nat)  (y0 : Value) (r : List Value) (σ : zk_S) (sz k c : Nat), zk_run E (zk_VT E) M_X10_timeOut (C_X10_timeOut E) P PX K (n + 1) 4 [some y0] r (σ, sz, k, c) = (zk_isr y0 ∧ zk_run E (zk_VT E) M_X10_timeOut (C_X10_timeOut E) P PX K n 5 [some y0] (y0 :: r) (σ, sz, k, c))) ∧
  (∀ (n : Nat) (l0 : Option Value) (a : Nat) (r : List Value) (σ : zk_S) (sz k c : Nat), zk_run E (zk_VT E) M_X10_timeOut (C_X10_timeOut E) P PX K (n + 1) 5 [l0] (.ref a :: r) (σ, sz, k, c) = zk_fld (zk_view E σ a) [9] 2 (fun v => zk_run E (zk_VT E) M_X10_timeOut (C_X10_timeOut E) P PX K n 8 [l0] (v :: r) (σ, sz, k, c))) ∧
  (∀ (n : Nat)  (y0 : Value) (r : List Value) (σ : zk_S) (sz k c : Nat), zk_run E (zk_VT E) M_X10_timeOut (C_X10_timeOut E) P PX K (n + 1) 8 [some y0] r (σ, sz, k, c) = (zk_isr y0 ∧ zk_run E (zk_VT E) M_X10_timeOut (C_X10_timeOut E) P PX K n 9 [some y0] (y0 :: r) (σ, sz, k, c))) ∧
  (∀ (n : Nat) (l0 : Option Value) (a : Nat) (r : List Value) (σ : zk_S) (sz k c : Nat), zk_run E (zk_VT E) M_X10_timeOut (C_X10_timeOut E) P PX K (n + 1) 9 [l0] (.ref a :: r) (σ, sz, k, c) = zk_fld (zk_view E σ a) [9] 0 (fun v => zk_run E (zk_VT E) M_X10_timeOut (C_X10_timeOut E) P PX K n 12 [l0] (v :: r) (σ, sz, k, c))) ∧
  (∀ (n : Nat)  (y0 : Value) (r : List Value) (σ : zk_S) (sz k c : Nat), zk_run E (zk_VT E) M_X10_timeOut (C_X10_timeOut E) P PX K (n + 1) 12 [some y0] r (σ, sz, k, c) = (zk_isr y0 ∧ zk_run E (zk_VT E) M_X10_timeOut (C_X10_timeOut E) P PX K n 13 [some y0] (y0 :: r) (σ, sz, k, c))) ∧
  (∀ (n : Nat) (l0 : Option Value) (a : Nat) (r : List Value) (σ : zk_S) (sz k c : Nat), zk_run E (zk_VT E) M_X10_timeOut (C_X10_timeOut E) P PX K (n + 1) 13 [l0] (.ref a :: r) (σ, sz, k, c) = zk_fld (zk_view E σ a) [9] 1 (fun v => zk_run E (zk_VT E) M_X10_timeOut (C_X10_timeOut E) P PX K n 16 [l0] (v :: r) (σ, sz, k, c))) ∧
  (∀ (n : Nat) (l0 : Option Value) (v0 : Value) (v1 : Value) (v2 : Value)  (σ : zk_S) (sz k c : Nat), zk_run E (zk_VT E) M_X10_timeOut (C_X10_timeOut E) P PX K (n + 1) 16 [l0] [v0, v1, v2] (σ, sz, k, c) = (k + 0 ≤ 0 ∧ c + 0 ≤ 0 ∧ (zk_rv (zk_VT E) (fun ci => Nat.beq ci 0) (sp_X0_ticksTillOut E)) [v2, v1, v0] σ sz (fun v s2 z2 => zk_run E (zk_VT E) M_X10_timeOut (C_X10_timeOut E) P PX K n 19 [l0] (zk_psh v []) (s2, z2, k + 0, c + 0)) (fun X s2 z2 => PX X s2 z2))) ∧
  (∀ (n : Nat) (l0 : Option Value) (x : Int32)  (σ : zk_S) (sz k c : Nat), zk_run E (zk_VT E) M_X10_timeOut (C_X10_timeOut E) P PX K (n + 1) 19 [l0] [.int x] (σ, sz, k, c) = (zk_nok (some (.int)) x ∧ P (some (.int x)) σ sz ∧ k ≤ 0 ∧ c ≤ 0)) ∧
  (∀ (n : Nat) (l0 : Option Value) (r : List Value) (w : zk_W zk_S), zk_go E (zk_VT E) M_X10_timeOut (C_X10_timeOut E) P PX K n 0 [l0] r w = zk_run E (zk_VT E) M_X10_timeOut (C_X10_timeOut E) P PX K (n + 1) 0 [l0] r w) := ⟨by intros; rfl, by intros; rfl, by intros; rfl, by intros; rfl, by intros; rfl, by intros; rfl, by intros; rfl, by intros; rfl, by intros; rfl, by intros; rfl, by intros; rfl⟩
theorem vc_X10_timeOut (E : zk_E) : zk_VC E (zk_VT E) M_X10_timeOut (C_X10_timeOut E) 1 (sp_X10_timeOut E) := by
  intro av σ sz P PX h
  obtain ⟨J, N, Q, O, U⟩ := σ
  unfold sp_X10_timeOut at h
  split at h
  case h_2 => exact h.elim
  rename_i a0
  obtain ⟨rfl, h⟩ := h
  refine ⟨Nat.le_of_ble_eq_true rfl, fun G hG => ?_⟩
  change G 0 [some (.ref (zk_ad E 0))] [] ((J, N, Q, O, U), sz, 0, 0)
  try dsimp only at h
  obtain ⟨J1, N1, ⟨hmi, hxr, hrk⟩, h⟩ := h
  (refine hG 900 _ _ _ _ ?_; simp only [r_X10_timeOut, zk_kl_none, zk_kl_int, zk_kl_ref, zk_kl_null, zk_kl_long, zk_kl_rf, zk_isr_ref, zk_isr_null, zk_isr_rf9, zk_c1_int, zk_c1_ref, zk_c1_null, zk_c1_rf, zk_psh_some, zk_psh_none, zk_nok_int, zk_nok_bool0, zk_nok_bool1, zk_nok_b, zk_fok_0, zk_fok_1, zk_fok_2, zk_fok_n, zk_fok_rf, zb_f, zb_p, zb_i, zb_a, zb_s, zk_nth_0, zk_nth_s, zk_fld_o, zk_put_o, zk_rv_eq, zk_ri_eq, zk_is_o, List.mem_cons, List.not_mem_nil, or_false, false_or, or_true, true_or, and_true, true_and, not_false_iff, not_true_eq_false, true_implies, false_implies, imp_self, implies_true, forall_const, zk_lit, zk_uj_ap, zk_un_ap, zk_un_un, zk_uj_uj, Nat.reduceEqDiff, eq_self, zk_bq, Bool.true_or, Bool.false_or, Nat.le_refl, Nat.zero_add, Nat.add_zero, Nat.reduceAdd, Nat.reduceLeDiff, Nat.le_zero_eq, and_self, and_false, false_and, ite_true, ite_false, Nat.zero_le, List.length_cons, List.length_nil, Option.some.injEq, forall_eq', reduceCtorEq, spe_X10_reckon])
  refine ⟨J1, N1, fl0 N1, hmi, hxr, hrk, fun J2 N2 hke hcf => ?_⟩
  have hx2 : XR E sz (J2, N2, Q, O, U) J1 N1 (fl0 N1) := hxr.cn (by funext k; exact hke.1 1 k (by omega) (by omega)) (hke.2 6 (by omega))
  simp only [r_X10_timeOut, zk_kl_none, zk_kl_int, zk_kl_ref, zk_kl_null, zk_kl_long, zk_kl_rf, zk_isr_ref, zk_isr_null, zk_isr_rf9, zk_c1_int, zk_c1_ref, zk_c1_null, zk_c1_rf, zk_psh_some, zk_psh_none, zk_nok_int, zk_nok_bool0, zk_nok_bool1, zk_nok_b, zk_fok_0, zk_fok_1, zk_fok_2, zk_fok_n, zk_fok_rf, zb_f, zb_p, zb_i, zb_a, zb_s, zk_nth_0, zk_nth_s, zk_fld_o, zk_put_o, zk_rv_eq, zk_ri_eq, zk_is_o, List.mem_cons, List.not_mem_nil, or_false, false_or, or_true, true_or, and_true, true_and, not_false_iff, not_true_eq_false, true_implies, false_implies, imp_self, implies_true, forall_const, zk_lit, zk_uj_ap, zk_un_ap, zk_un_un, zk_uj_uj, Nat.reduceEqDiff, eq_self, zk_bq, Bool.true_or, Bool.false_or, Nat.le_refl, Nat.zero_add, Nat.add_zero, Nat.reduceAdd, Nat.reduceLeDiff, Nat.le_zero_eq, and_self, and_false, false_and, ite_true, ite_false, Nat.zero_le, List.length_cons, List.length_nil, Option.some.injEq, forall_eq', reduceCtorEq, spe_X0_ticksTillOut]
  refine ⟨J1, N1, fl0 N1, -1, 0, hmi, hx2, fl0_ok hmi, by decide, hcf.2.1.wl, hcf.2.1.wd, fun A B => ?_⟩
  have h := h J2 (zk_un (zk_un N2 17 B) 16 A) ((hke.un B (by decide)).un A (by decide)) (Or.inr hcf.un)
  exact h
theorem ct_X10_timeOut {l : Launch} (hl : l.stackTraces = false) (E : zk_E) : zk_C l E (zk_VT E) yX10_timeOut cX10_timeOut 1 (some (.int)) rm_X10_timeOut (sp_X10_timeOut E) := by
  refine zk_meth (M := M_X10_timeOut) (C := C_X10_timeOut E) hl (by decide +kernel) rfl (fun _ _ => rfl) (zk_VT_ok E) MO_X10_timeOut TO_X10_timeOut THo_X10_timeOut ?_ (vc_X10_timeOut E)
  exact fun p e s m args below meth c X pc n mc ms sp2 h => by
    have h2 := zk_lka_mem h
    simp only [List.mem_cons, List.not_mem_nil, or_false, Prod.mk.injEq] at h2
    rcases h2 with ⟨rfl, rfl, rfl, rfl, rfl⟩ | ⟨rfl, rfl, rfl, rfl, rfl⟩
    · exact zk_coV (idx := 197) X (ct_X10_reckon hl E) (List.forall_mem_cons.mpr ⟨zk_wi 110 (by decide +kernel) rfl, List.forall_mem_cons.mpr ⟨zk_wi 112 (by decide +kernel) rfl, List.forall_mem_cons.mpr ⟨zk_wp 3 (by decide +kernel) rfl, List.forall_mem_cons.mpr ⟨zk_wi 2 (by decide +kernel) rfl, List.forall_mem_cons.mpr ⟨zk_wi 113 (by decide +kernel) rfl, fun _ h => absurd h List.not_mem_nil⟩⟩⟩⟩⟩) (fun ci h => by
      have h := Nat.eq_of_beq_eq_true h
      subst h
      exact ⟨_, _, rfl⟩) (by decide +kernel) ⟨by decide, by decide, by decide +kernel⟩ ⟨by decide, by decide⟩
    · exact zk_coV (idx := 227) X (ct_X0_ticksTillOut hl E) (List.forall_mem_cons.mpr ⟨zk_wi 257 (by decide +kernel) rfl, List.forall_mem_cons.mpr ⟨zk_wi 258 (by decide +kernel) rfl, List.forall_mem_cons.mpr ⟨zk_wi 259 (by decide +kernel) rfl, List.forall_mem_cons.mpr ⟨zk_wi 5 (by decide +kernel) rfl, List.forall_mem_cons.mpr ⟨zk_wi 260 (by decide +kernel) rfl, fun _ h => absurd h List.not_mem_nil⟩⟩⟩⟩⟩) (fun ci h => by
      have h := Nat.eq_of_beq_eq_true h
      subst h
      exact ⟨_, _, rfl⟩) (by decide +kernel) ⟨by decide, by decide, by decide +kernel⟩ ⟨by decide, by decide⟩
def sp_X10_left (E : zk_E) : zk_Sp zk_S := fun av σ sz P PX => match av with
  | [.ref a, .int n] => a = zk_ad E 0 ∧ ∃ J N, IC E sz σ J N ∧ (m_isIn n 0 999 = false → ZX J N σ sz "java/lang/IllegalArgumentException" PX) ∧ (m_isIn n 0 999 = true → ZC J N σ sz (some (.int (a_left J N n.toNatClampNeg))) P)
  | _ => False
theorem spe_X10_left (E : zk_E) (a : Nat) (n : Int32) (σ : zk_S) (sz : Nat) (P : zk_P zk_S) (PX : zk_X zk_S) : sp_X10_left E [.ref a, .int n] σ sz P PX = (a = zk_ad E 0 ∧ ∃ J N, IC E sz σ J N ∧ (m_isIn n 0 999 = false → ZX J N σ sz "java/lang/IllegalArgumentException" PX) ∧ (m_isIn n 0 999 = true → ZC J N σ sz (some (.int (a_left J N n.toNatClampNeg))) P)) := propext Iff.rfl
def C_X10_left (E : zk_E) : zk_Cl zk_S := zk_lka [(1, 1, 1, 6, sp_X10_checkTick E), (5, 1, 0, 0, zk_rv (zk_VT E) (fun ci => Nat.beq ci 9) (sp_X10_reckon E)), (21, 4, 0, 0, zk_rv (zk_VT E) (fun ci => Nat.beq ci 0) (sp_X0_goOn E)), (28, 1, 0, 0, zk_rv (zk_VT E) (fun ci => Nat.beq ci 0) (sp_X0_countInside E))]
theorem r_X10_left (E : zk_E) (P : zk_P zk_S) (PX : zk_X zk_S) (K : Nat → zk_L → List Value → zk_W zk_S → Prop) : (∀ (n : Nat) (l0 : Option Value) (y1 : Int32) (r : List Value) (σ : zk_S) (sz k c : Nat), zk_run E (zk_VT E) M_X10_left (C_X10_left E) P PX K (n + 1) 0 [l0, some (.int y1)] r (σ, sz, k, c) = zk_run E (zk_VT E) M_X10_left (C_X10_left E) P PX K n 1 [l0, some (.int y1)] (.int y1 :: r) (σ, sz, k, c)) ∧
  (∀ (n : Nat) (l0 l1 : Option Value) (v0 : Value)  (σ : zk_S) (sz k c : Nat), zk_run E (zk_VT E) M_X10_left (C_X10_left E) P PX K (n + 1) 1 [l0, l1] [v0] (σ, sz, k, c) = (k + 1 ≤ 1 ∧ c + 6 ≤ 6 ∧ (sp_X10_checkTick E) [v0] σ sz (fun v s2 z2 => zk_run E (zk_VT E) M_X10_left (C_X10_left E) P PX K n 4 [l0, l1] (zk_psh v []) (s2, z2, k + 1, c + 6)) (fun X s2 z2 => PX X s2 z2))) ∧
  (∀ (n : Nat) (l1 : Option Value) (y0 : Value) (r : List Value) (σ : zk_S) (sz k c : Nat), zk_run E (zk_VT E) M_X10_left (C_X10_left E) P PX K (n + 1) 4 [some y0, l1] r (σ, sz, k, c) = (zk_isr y0 ∧ zk_run E (zk_VT E) M_X10_left (C_X10_left E) P PX K n 5 [some y0, l1] (y0 :: r) (σ, sz, k, c))) ∧
  (∀ (n : Nat) (l0 l1 : Option Value) (v0 : Value)  (σ : zk_S) (sz k c : Nat), zk_run E (zk_VT E) M_X10_left (C_X10_left E) P PX K (n + 1) 5 [l0, l1] [v0] (σ, sz, k, c) = (k + 0 ≤ 1 ∧ c + 0 ≤ 6 ∧ (zk_rv (zk_VT E) (fun ci => Nat.beq ci 9) (sp_X10_reckon E)) [v0] σ sz (fun v s2 z2 => zk_run E (zk_VT E) M_X10_left (C_X10_left E) P PX K n 8 [l0, l1] (zk_psh v []) (s2, z2, k + 0, c + 0)) (fun X s2 z2 => PX X s2 z2))) ∧
  (∀ (n : Nat) (l1 : Option Value) (y0 : Value) (r : List Value) (σ : zk_S) (sz k c : Nat), zk_run E (zk_VT E) M_X10_left (C_X10_left E) P PX K (n + 1) 8 [some y0, l1] r (σ, sz, k, c) = (zk_isr y0 ∧ zk_run E (zk_VT E) M_X10_left (C_X10_left E) P PX K n 9 [some y0, l1] (y0 :: r) (σ, sz, k, c))) ∧
  (∀ (n : Nat) (l0 l1 : Option Value) (a : Nat) (r : List Value) (σ : zk_S) (sz k c : Nat), zk_run E (zk_VT E) M_X10_left (C_X10_left E) P PX K (n + 1) 9 [l0, l1] (.ref a :: r) (σ, sz, k, c) = zk_fld (zk_view E σ a) [9] 2 (fun v => zk_run E (zk_VT E) M_X10_left (C_X10_left E) P PX K n 12 [l0, l1] (v :: r) (σ, sz, k, c))) ∧
  (∀ (n : Nat) (l1 : Option Value) (y0 : Value) (r : List Value) (σ : zk_S) (sz k c : Nat), zk_run E (zk_VT E) M_X10_left (C_X10_left E) P PX K (n + 1) 12 [some y0, l1] r (σ, sz, k, c) = (zk_isr y0 ∧ zk_run E (zk_VT E) M_X10_left (C_X10_left E) P PX K n 13 [some y0, l1] (y0 :: r) (σ, sz, k, c))) ∧
  (∀ (n : Nat) (l0 l1 : Option Value) (a : Nat) (r : List Value) (σ : zk_S) (sz k c : Nat), zk_run E (zk_VT E) M_X10_left (C_X10_left E) P PX K (n + 1) 13 [l0, l1] (.ref a :: r) (σ, sz, k, c) = zk_fld (zk_view E σ a) [9] 0 (fun v => zk_run E (zk_VT E) M_X10_left (C_X10_left E) P PX K n 16 [l0, l1] (v :: r) (σ, sz, k, c))) ∧
  (∀ (n : Nat) (l1 : Option Value) (y0 : Value) (r : List Value) (σ : zk_S) (sz k c : Nat), zk_run E (zk_VT E) M_X10_left (C_X10_left E) P PX K (n + 1) 16 [some y0, l1] r (σ, sz, k, c) = (zk_isr y0 ∧ zk_run E (zk_VT E) M_X10_left (C_X10_left E) P PX K n 17 [some y0, l1] (y0 :: r) (σ, sz, k, c))) ∧
  (∀ (n : Nat) (l0 l1 : Option Value) (a : Nat) (r : List Value) (σ : zk_S) (sz k c : Nat), zk_run E (zk_VT E) M_X10_left (C_X10_left E) P PX K (n + 1) 17 [l0, l1] (.ref a :: r) (σ, sz, k, c) = zk_fld (zk_view E σ a) [9] 1 (fun v => zk_run E (zk_VT E) M_X10_left (C_X10_left E) P PX K n 20 [l0, l1] (v :: r) (σ, sz, k, c))) ∧
  (∀ (n : Nat) (l0 : Option Value) (y1 : Int32) (r : List Value) (σ : zk_S) (sz k c : Nat), zk_run E (zk_VT E) M_X10_left (C_X10_left E) P PX K (n + 1) 20 [l0, some (.int y1)] r (σ, sz, k, c) = zk_run E (zk_VT E) M_X10_left (C_X10_left E) P PX K n 21 [l0, some (.int y1)] (.int y1 :: r) (σ, sz, k, c)) ∧
  (∀ (n : Nat) (l0 l1 : Option Value) (v0 : Value) (v1 : Value) (v2 : Value) (v3 : Value)  (σ : zk_S) (sz k c : Nat), zk_run E (zk_VT E) M_X10_left (C_X10_left E) P PX K (n + 1) 21 [l0, l1] [v0, v1, v2, v3] (σ, sz, k, c) = (k + 0 ≤ 1 ∧ c + 0 ≤ 6 ∧ (zk_rv (zk_VT E) (fun ci => Nat.beq ci 0) (sp_X0_goOn E)) [v3, v2, v1, v0] σ sz (fun v s2 z2 => zk_run E (zk_VT E) M_X10_left (C_X10_left E) P PX K n 24 [l0, l1] (zk_psh v []) (s2, z2, k + 0, c + 0)) (fun X s2 z2 => PX X s2 z2))) ∧
  (∀ (n : Nat) (l1 : Option Value) (y0 : Value) (r : List Value) (σ : zk_S) (sz k c : Nat), zk_run E (zk_VT E) M_X10_left (C_X10_left E) P PX K (n + 1) 24 [some y0, l1] r (σ, sz, k, c) = (zk_isr y0 ∧ zk_run E (zk_VT E) M_X10_left (C_X10_left E) P PX K n 25 [some y0, l1] (y0 :: r) (σ, sz, k, c))) ∧
  (∀ (n : Nat) (l0 l1 : Option Value) (a : Nat) (r : List Value) (σ : zk_S) (sz k c : Nat), zk_run E (zk_VT E) M_X10_left (C_X10_left E) P PX K (n + 1) 25 [l0, l1] (.ref a :: r) (σ, sz, k, c) = zk_fld (zk_view E σ a) [9] 2 (fun v => zk_run E (zk_VT E) M_X10_left (C_X10_left E) P PX K n 28 [l0, l1] (v :: r) (σ, sz, k, c))) ∧
  (∀ (n : Nat) (l0 l1 : Option Value) (v0 : Value)  (σ : zk_S) (sz k c : Nat), zk_run E (zk_VT E) M_X10_left (C_X10_left E) P PX K (n + 1) 28 [l0, l1] [v0] (σ, sz, k, c) = (k + 0 ≤ 1 ∧ c + 0 ≤ 6 ∧ (zk_rv (zk_VT E) (fun ci => Nat.beq ci 0) (sp_X0_countInside E)) [v0] σ sz (fun v s2 z2 => zk_run E (zk_VT E) M_X10_left (C_X10_left E) P PX K n 31 [l0, l1] (zk_psh v []) (s2, z2, k + 0, c + 0)) (fun X s2 z2 => PX X s2 z2))) ∧
  (∀ (n : Nat) (l0 l1 : Option Value) (x : Int32)  (σ : zk_S) (sz k c : Nat), zk_run E (zk_VT E) M_X10_left (C_X10_left E) P PX K (n + 1) 31 [l0, l1] [.int x] (σ, sz, k, c) = (zk_nok (some (.int)) x ∧ P (some (.int x)) σ sz ∧ k ≤ 1 ∧ c ≤ 6)) ∧
  (∀ (n : Nat) (l0 l1 : Option Value) (r : List Value) (w : zk_W zk_S), zk_go E (zk_VT E) M_X10_left (C_X10_left E) P PX K n 0 [l0, l1] r w = zk_run E (zk_VT E) M_X10_left (C_X10_left E) P PX K (n + 1) 0 [l0, l1] r w) := ⟨by intros; rfl, by intros; rfl, by intros; rfl, by intros; rfl, by intros; rfl, by intros; rfl, by intros; rfl, by intros; rfl, by intros; rfl, by intros; rfl, by intros; rfl, by intros; rfl, by intros; rfl, by intros; rfl, by intros; rfl, by intros; rfl, by intros; rfl⟩
theorem vc_X10_left (E : zk_E) : zk_VC E (zk_VT E) M_X10_left (C_X10_left E) 2 (sp_X10_left E) := by
  intro av σ sz P PX h
  obtain ⟨J, N, Q, O, U⟩ := σ
  unfold sp_X10_left at h
  split at h
  case h_2 => exact h.elim
  rename_i a0 n
  obtain ⟨rfl, h⟩ := h
  refine ⟨Nat.le_of_ble_eq_true rfl, fun G hG => ?_⟩
  change G 0 [some (.ref (zk_ad E 0)), some (.int n)] [] ((J, N, Q, O, U), sz, 0, 0)
  try dsimp only at h
  obtain ⟨J1, N1, ⟨hmi, hxr, hrk⟩, h1, h2⟩ := h
  cases q : m_isIn n 0 999 with
  | false =>
    have h := h1 q
    (refine hG 900 _ _ _ _ ?_; simp only [r_X10_left, zk_kl_none, zk_kl_int, zk_kl_ref, zk_kl_null, zk_kl_long, zk_kl_rf, zk_isr_ref, zk_isr_null, zk_isr_rf9, zk_c1_int, zk_c1_ref, zk_c1_null, zk_c1_rf, zk_psh_some, zk_psh_none, zk_nok_int, zk_nok_bool0, zk_nok_bool1, zk_nok_b, zk_fok_0, zk_fok_1, zk_fok_2, zk_fok_n, zk_fok_rf, zb_f, zb_p, zb_i, zb_a, zb_s, zk_nth_0, zk_nth_s, zk_fld_o, zk_put_o, zk_rv_eq, zk_ri_eq, zk_is_o, List.mem_cons, List.not_mem_nil, or_false, false_or, or_true, true_or, and_true, true_and, not_false_iff, not_true_eq_false, true_implies, false_implies, imp_self, implies_true, forall_const, zk_lit, zk_uj_ap, zk_un_ap, zk_un_un, zk_uj_uj, Nat.reduceEqDiff, eq_self, zk_bq, Bool.true_or, Bool.false_or, Nat.le_refl, Nat.zero_add, Nat.add_zero, Nat.reduceAdd, Nat.reduceLeDiff, Nat.le_zero_eq, and_self, and_false, false_and, ite_true, ite_false, Nat.zero_le, List.length_cons, List.length_nil, Option.some.injEq, forall_eq', reduceCtorEq, spe_X10_checkTick, q, Bool.false_eq_true])
    exact fun z2 hz => h J N z2 (KE.refl J N) hrk hz
  | true =>
    have h := h2 q
    obtain ⟨t, ht, rfl⟩ := m_isIn_999 q
    rw [n_cl (by omega)] at h
    (refine hG 900 _ _ _ _ ?_; simp only [r_X10_left, zk_kl_none, zk_kl_int, zk_kl_ref, zk_kl_null, zk_kl_long, zk_kl_rf, zk_isr_ref, zk_isr_null, zk_isr_rf9, zk_c1_int, zk_c1_ref, zk_c1_null, zk_c1_rf, zk_psh_some, zk_psh_none, zk_nok_int, zk_nok_bool0, zk_nok_bool1, zk_nok_b, zk_fok_0, zk_fok_1, zk_fok_2, zk_fok_n, zk_fok_rf, zb_f, zb_p, zb_i, zb_a, zb_s, zk_nth_0, zk_nth_s, zk_fld_o, zk_put_o, zk_rv_eq, zk_ri_eq, zk_is_o, List.mem_cons, List.not_mem_nil, or_false, false_or, or_true, true_or, and_true, true_and, not_false_iff, not_true_eq_false, true_implies, false_implies, imp_self, implies_true, forall_const, zk_lit, zk_uj_ap, zk_un_ap, zk_un_un, zk_uj_uj, Nat.reduceEqDiff, eq_self, zk_bq, Bool.true_or, Bool.false_or, Nat.le_refl, Nat.zero_add, Nat.add_zero, Nat.reduceAdd, Nat.reduceLeDiff, Nat.le_zero_eq, and_self, and_false, false_and, ite_true, ite_false, Nat.zero_le, List.length_cons, List.length_nil, Option.some.injEq, forall_eq', reduceCtorEq, spe_X10_checkTick, q, Bool.true_eq_false, spe_X10_reckon])
    refine ⟨J1, N1, fl0 N1, hmi, hxr, hrk, fun J2 N2 hke hcf => ?_⟩
    have hx2 : XR E sz (J2, N2, Q, O, U) J1 N1 (fl0 N1) := hxr.cn (by funext k; exact hke.1 1 k (by omega) (by omega)) (hke.2 6 (by omega))
    simp only [r_X10_left, zk_kl_none, zk_kl_int, zk_kl_ref, zk_kl_null, zk_kl_long, zk_kl_rf, zk_isr_ref, zk_isr_null, zk_isr_rf9, zk_c1_int, zk_c1_ref, zk_c1_null, zk_c1_rf, zk_psh_some, zk_psh_none, zk_nok_int, zk_nok_bool0, zk_nok_bool1, zk_nok_b, zk_fok_0, zk_fok_1, zk_fok_2, zk_fok_n, zk_fok_rf, zb_f, zb_p, zb_i, zb_a, zb_s, zk_nth_0, zk_nth_s, zk_fld_o, zk_put_o, zk_rv_eq, zk_ri_eq, zk_is_o, List.mem_cons, List.not_mem_nil, or_false, false_or, or_true, true_or, and_true, true_and, not_false_iff, not_true_eq_false, true_implies, false_implies, imp_self, implies_true, forall_const, zk_lit, zk_uj_ap, zk_un_ap, zk_un_un, zk_uj_uj, Nat.reduceEqDiff, eq_self, zk_bq, Bool.true_or, Bool.false_or, Nat.le_refl, Nat.zero_add, Nat.add_zero, Nat.reduceAdd, Nat.reduceLeDiff, Nat.le_zero_eq, and_self, and_false, false_and, ite_true, ite_false, Nat.zero_le, List.length_cons, List.length_nil, Option.some.injEq, forall_eq', reduceCtorEq, spe_X0_goOn]
    refine ⟨J1, N1, fl0 N1, t, hmi, hx2, fl0_ok hmi, hcf.2.1.wl, hcf.2.1.wd, ht, rfl, fun A B hA => ?_⟩
    simp only [r_X10_left, zk_kl_none, zk_kl_int, zk_kl_ref, zk_kl_null, zk_kl_long, zk_kl_rf, zk_isr_ref, zk_isr_null, zk_isr_rf9, zk_c1_int, zk_c1_ref, zk_c1_null, zk_c1_rf, zk_psh_some, zk_psh_none, zk_nok_int, zk_nok_bool0, zk_nok_bool1, zk_nok_b, zk_fok_0, zk_fok_1, zk_fok_2, zk_fok_n, zk_fok_rf, zb_f, zb_p, zb_i, zb_a, zb_s, zk_nth_0, zk_nth_s, zk_fld_o, zk_put_o, zk_rv_eq, zk_ri_eq, zk_is_o, List.mem_cons, List.not_mem_nil, or_false, false_or, or_true, true_or, and_true, true_and, not_false_iff, not_true_eq_false, true_implies, false_implies, imp_self, implies_true, forall_const, zk_lit, zk_uj_ap, zk_un_ap, zk_un_un, zk_uj_uj, Nat.reduceEqDiff, eq_self, zk_bq, Bool.true_or, Bool.false_or, Nat.le_refl, Nat.zero_add, Nat.add_zero, Nat.reduceAdd, Nat.reduceLeDiff, Nat.le_zero_eq, and_self, and_false, false_and, ite_true, ite_false, Nat.zero_le, List.length_cons, List.length_nil, Option.some.injEq, forall_eq', reduceCtorEq, spe_X0_countInside]
    refine ⟨t_beh J1 N1 t (g_p J1 N1), hA, ?_⟩
    have h := h J2 (zk_un (zk_un N2 17 B) 16 A) ((hke.un B (by decide)).un A (by decide)) (Or.inr hcf.un)
    exact h
theorem ct_X10_left {l : Launch} (hl : l.stackTraces = false) (E : zk_E) : zk_C l E (zk_VT E) yX10_left cX10_left 2 (some (.int)) rm_X10_left (sp_X10_left E) := by
  refine zk_meth (M := M_X10_left) (C := C_X10_left E) hl (by decide +kernel) rfl (fun _ _ => rfl) (zk_VT_ok E) MO_X10_left TO_X10_left THo_X10_left ?_ (vc_X10_left E)
  exact fun p e s m args below meth c X pc n mc ms sp2 h => by
    have h2 := zk_lka_mem h
    simp only [List.mem_cons, List.not_mem_nil, or_false, Prod.mk.injEq] at h2
    rcases h2 with ⟨rfl, rfl, rfl, rfl, rfl⟩ | ⟨rfl, rfl, rfl, rfl, rfl⟩ | ⟨rfl, rfl, rfl, rfl, rfl⟩ | ⟨rfl, rfl, rfl, rfl, rfl⟩
    · exact zk_coS (idx := 231) X (ct_X10_checkTick hl E) (List.forall_mem_cons.mpr ⟨zk_wi 284 (by decide +kernel) rfl, List.forall_mem_cons.mpr ⟨zk_wi 285 (by decide +kernel) rfl, List.forall_mem_cons.mpr ⟨zk_wi 2 (by decide +kernel) rfl, List.forall_mem_cons.mpr ⟨zk_wi 286 (by decide +kernel) rfl, fun _ h => absurd h List.not_mem_nil⟩⟩⟩⟩) (by decide +kernel) ⟨by decide, by decide, by decide +kernel⟩ ⟨by decide, by decide⟩
    · exact zk_coV (idx := 197) X (ct_X10_reckon hl E) (List.forall_mem_cons.mpr ⟨zk_wi 110 (by decide +kernel) rfl, List.forall_mem_cons.mpr ⟨zk_wi 112 (by decide +kernel) rfl, List.forall_mem_cons.mpr ⟨zk_wp 3 (by decide +kernel) rfl, List.forall_mem_cons.mpr ⟨zk_wi 2 (by decide +kernel) rfl, List.forall_mem_cons.mpr ⟨zk_wi 113 (by decide +kernel) rfl, fun _ h => absurd h List.not_mem_nil⟩⟩⟩⟩⟩) (fun ci h => by
      have h := Nat.eq_of_beq_eq_true h
      subst h
      exact ⟨_, _, rfl⟩) (by decide +kernel) ⟨by decide, by decide, by decide +kernel⟩ ⟨by decide, by decide⟩
    · exact zk_coV (idx := 235) X (ct_X0_goOn hl E) (List.forall_mem_cons.mpr ⟨zk_wi 303 (by decide +kernel) rfl, List.forall_mem_cons.mpr ⟨zk_wi 304 (by decide +kernel) rfl, List.forall_mem_cons.mpr ⟨zk_wi 305 (by decide +kernel) rfl, List.forall_mem_cons.mpr ⟨zk_wi 5 (by decide +kernel) rfl, List.forall_mem_cons.mpr ⟨zk_wi 306 (by decide +kernel) rfl, fun _ h => absurd h List.not_mem_nil⟩⟩⟩⟩⟩) (fun ci h => by
      have h := Nat.eq_of_beq_eq_true h
      subst h
      exact ⟨_, _, rfl⟩) (by decide +kernel) ⟨by decide, by decide, by decide +kernel⟩ ⟨by decide, by decide⟩
    · exact zk_coV (idx := 239) X (ct_X0_countInside hl E) (List.forall_mem_cons.mpr ⟨zk_wi 307 (by decide +kernel) rfl, List.forall_mem_cons.mpr ⟨zk_wi 308 (by decide +kernel) rfl, List.forall_mem_cons.mpr ⟨zk_wi 309 (by decide +kernel) rfl, List.forall_mem_cons.mpr ⟨zk_wi 5 (by decide +kernel) rfl, List.forall_mem_cons.mpr ⟨zk_wi 310 (by decide +kernel) rfl, fun _ h => absurd h List.not_mem_nil⟩⟩⟩⟩⟩) (fun ci h => by
      have h := Nat.eq_of_beq_eq_true h
      subst h
      exact ⟨_, _, rfl⟩) (by decide +kernel) ⟨by decide, by decide, by decide +kernel⟩ ⟨by decide, by decide⟩
def sp_X10_inRoom (E : zk_E) : zk_Sp zk_S := fun av σ sz P PX => match av with
  | [.ref a, .int r, .int n] => a = zk_ad E 0 ∧ ∃ J N, IC E sz σ J N ∧ RD J N r (fun j => (m_isIn n 0 999 = false → ZX J N σ sz "java/lang/IllegalArgumentException" PX) ∧ (m_isIn n 0 999 = true → ZC J N σ sz (some (.int (a_inR J N n.toNatClampNeg j))) P)) (ZX J N σ sz "java/lang/IndexOutOfBoundsException" PX)
  | _ => False
theorem spe_X10_inRoom (E : zk_E) (a : Nat) (r : Int32) (n : Int32) (σ : zk_S) (sz : Nat) (P : zk_P zk_S) (PX : zk_X zk_S) : sp_X10_inRoom E [.ref a, .int r, .int n] σ sz P PX = (a = zk_ad E 0 ∧ ∃ J N, IC E sz σ J N ∧ RD J N r (fun j => (m_isIn n 0 999 = false → ZX J N σ sz "java/lang/IllegalArgumentException" PX) ∧ (m_isIn n 0 999 = true → ZC J N σ sz (some (.int (a_inR J N n.toNatClampNeg j))) P)) (ZX J N σ sz "java/lang/IndexOutOfBoundsException" PX)) := propext Iff.rfl
def C_X10_inRoom (E : zk_E) : zk_Cl zk_S := zk_lka [(2, 2, 1, 6, zk_rv (zk_VT E) (fun ci => Nat.beq ci 9) (sp_X10_roomThere E)), (7, 1, 1, 6, sp_X10_checkTick E), (11, 1, 0, 0, zk_rv (zk_VT E) (fun ci => Nat.beq ci 9) (sp_X10_reckon E)), (27, 4, 0, 0, zk_rv (zk_VT E) (fun ci => Nat.beq ci 0) (sp_X0_goOn E))]
theorem r_X10_inRoom (E : zk_E) (P : zk_P zk_S) (PX : zk_X zk_S) (K : Nat → zk_L → List Value → zk_W zk_S → Prop) : (∀ (n : Nat) (l1 l2 l3 : Option Value) (y0 : Value) (r : List Value) (σ : zk_S) (sz k c : Nat), zk_run E (zk_VT E) M_X10_inRoom (C_X10_inRoom E) P PX K (n + 1) 0 [some y0, l1, l2, l3] r (σ, sz, k, c) = (zk_isr y0 ∧ zk_run E (zk_VT E) M_X10_inRoom (C_X10_inRoom E) P PX K n 1 [some y0, l1, l2, l3] (y0 :: r) (σ, sz, k, c))) ∧
  (∀ (n : Nat) (l0 l2 l3 : Option Value) (y1 : Int32) (r : List Value) (σ : zk_S) (sz k c : Nat), zk_run E (zk_VT E) M_X10_inRoom (C_X10_inRoom E) P PX K (n + 1) 1 [l0, some (.int y1), l2, l3] r (σ, sz, k, c) = zk_run E (zk_VT E) M_X10_inRoom (C_X10_inRoom E) P PX K n 2 [l0, some (.int y1), l2, l3] (.int y1 :: r) (σ, sz, k, c)) ∧
  (∀ (n : Nat) (l0 l1 l2 l3 : Option Value) (v0 : Value) (v1 : Value)  (σ : zk_S) (sz k c : Nat), zk_run E (zk_VT E) M_X10_inRoom (C_X10_inRoom E) P PX K (n + 1) 2 [l0, l1, l2, l3] [v0, v1] (σ, sz, k, c) = (k + 1 ≤ 2 ∧ c + 6 ≤ 12 ∧ (zk_rv (zk_VT E) (fun ci => Nat.beq ci 9) (sp_X10_roomThere E)) [v1, v0] σ sz (fun v s2 z2 => zk_run E (zk_VT E) M_X10_inRoom (C_X10_inRoom E) P PX K n 5 [l0, l1, l2, l3] (zk_psh v []) (s2, z2, k + 1, c + 6)) (fun X s2 z2 => PX X s2 z2))) ∧
  (∀ (n : Nat) (l0 l1 l2 l3 : Option Value) (x : Value) (r : List Value) (σ : zk_S) (sz k c : Nat), zk_run E (zk_VT E) M_X10_inRoom (C_X10_inRoom E) P PX K (n + 1) 5 [l0, l1, l2, l3] (x :: r) (σ, sz, k, c) = (zk_isr x ∧ zk_run E (zk_VT E) M_X10_inRoom (C_X10_inRoom E) P PX K n 6 [l0, l1, zk_kl l2, some (x)] r (σ, sz, k, c))) ∧
  (∀ (n : Nat) (l0 l1 l3 : Option Value) (y2 : Int32) (r : List Value) (σ : zk_S) (sz k c : Nat), zk_run E (zk_VT E) M_X10_inRoom (C_X10_inRoom E) P PX K (n + 1) 6 [l0, l1, some (.int y2), l3] r (σ, sz, k, c) = zk_run E (zk_VT E) M_X10_inRoom (C_X10_inRoom E) P PX K n 7 [l0, l1, some (.int y2), l3] (.int y2 :: r) (σ, sz, k, c)) ∧
  (∀ (n : Nat) (l0 l1 l2 l3 : Option Value) (v0 : Value)  (σ : zk_S) (sz k c : Nat), zk_run E (zk_VT E) M_X10_inRoom (C_X10_inRoom E) P PX K (n + 1) 7 [l0, l1, l2, l3] [v0] (σ, sz, k, c) = (k + 1 ≤ 2 ∧ c + 6 ≤ 12 ∧ (sp_X10_checkTick E) [v0] σ sz (fun v s2 z2 => zk_run E (zk_VT E) M_X10_inRoom (C_X10_inRoom E) P PX K n 10 [l0, l1, l2, l3] (zk_psh v []) (s2, z2, k + 1, c + 6)) (fun X s2 z2 => PX X s2 z2))) ∧
  (∀ (n : Nat) (l1 l2 l3 : Option Value) (y0 : Value) (r : List Value) (σ : zk_S) (sz k c : Nat), zk_run E (zk_VT E) M_X10_inRoom (C_X10_inRoom E) P PX K (n + 1) 10 [some y0, l1, l2, l3] r (σ, sz, k, c) = (zk_isr y0 ∧ zk_run E (zk_VT E) M_X10_inRoom (C_X10_inRoom E) P PX K n 11 [some y0, l1, l2, l3] (y0 :: r) (σ, sz, k, c))) ∧
  (∀ (n : Nat) (l0 l1 l2 l3 : Option Value) (v0 : Value)  (σ : zk_S) (sz k c : Nat), zk_run E (zk_VT E) M_X10_inRoom (C_X10_inRoom E) P PX K (n + 1) 11 [l0, l1, l2, l3] [v0] (σ, sz, k, c) = (k + 0 ≤ 2 ∧ c + 0 ≤ 12 ∧ (zk_rv (zk_VT E) (fun ci => Nat.beq ci 9) (sp_X10_reckon E)) [v0] σ sz (fun v s2 z2 => zk_run E (zk_VT E) M_X10_inRoom (C_X10_inRoom E) P PX K n 14 [l0, l1, l2, l3] (zk_psh v []) (s2, z2, k + 0, c + 0)) (fun X s2 z2 => PX X s2 z2))) ∧
  (∀ (n : Nat) (l1 l2 l3 : Option Value) (y0 : Value) (r : List Value) (σ : zk_S) (sz k c : Nat), zk_run E (zk_VT E) M_X10_inRoom (C_X10_inRoom E) P PX K (n + 1) 14 [some y0, l1, l2, l3] r (σ, sz, k, c) = (zk_isr y0 ∧ zk_run E (zk_VT E) M_X10_inRoom (C_X10_inRoom E) P PX K n 15 [some y0, l1, l2, l3] (y0 :: r) (σ, sz, k, c))) ∧
  (∀ (n : Nat) (l0 l1 l2 l3 : Option Value) (a : Nat) (r : List Value) (σ : zk_S) (sz k c : Nat), zk_run E (zk_VT E) M_X10_inRoom (C_X10_inRoom E) P PX K (n + 1) 15 [l0, l1, l2, l3] (.ref a :: r) (σ, sz, k, c) = zk_fld (zk_view E σ a) [9] 2 (fun v => zk_run E (zk_VT E) M_X10_inRoom (C_X10_inRoom E) P PX K n 18 [l0, l1, l2, l3] (v :: r) (σ, sz, k, c))) ∧
  (∀ (n : Nat) (l1 l2 l3 : Option Value) (y0 : Value) (r : List Value) (σ : zk_S) (sz k c : Nat), zk_run E (zk_VT E) M_X10_inRoom (C_X10_inRoom E) P PX K (n + 1) 18 [some y0, l1, l2, l3] r (σ, sz, k, c) = (zk_isr y0 ∧ zk_run E (zk_VT E) M_X10_inRoom (C_X10_inRoom E) P PX K n 19 [some y0, l1, l2, l3] (y0 :: r) (σ, sz, k, c))) ∧
  (∀ (n : Nat) (l0 l1 l2 l3 : Option Value) (a : Nat) (r : List Value) (σ : zk_S) (sz k c : Nat), zk_run E (zk_VT E) M_X10_inRoom (C_X10_inRoom E) P PX K (n + 1) 19 [l0, l1, l2, l3] (.ref a :: r) (σ, sz, k, c) = zk_fld (zk_view E σ a) [9] 0 (fun v => zk_run E (zk_VT E) M_X10_inRoom (C_X10_inRoom E) P PX K n 22 [l0, l1, l2, l3] (v :: r) (σ, sz, k, c))) ∧
  (∀ (n : Nat) (l1 l2 l3 : Option Value) (y0 : Value) (r : List Value) (σ : zk_S) (sz k c : Nat), zk_run E (zk_VT E) M_X10_inRoom (C_X10_inRoom E) P PX K (n + 1) 22 [some y0, l1, l2, l3] r (σ, sz, k, c) = (zk_isr y0 ∧ zk_run E (zk_VT E) M_X10_inRoom (C_X10_inRoom E) P PX K n 23 [some y0, l1, l2, l3] (y0 :: r) (σ, sz, k, c))) ∧
  (∀ (n : Nat) (l0 l1 l2 l3 : Option Value) (a : Nat) (r : List Value) (σ : zk_S) (sz k c : Nat), zk_run E (zk_VT E) M_X10_inRoom (C_X10_inRoom E) P PX K (n + 1) 23 [l0, l1, l2, l3] (.ref a :: r) (σ, sz, k, c) = zk_fld (zk_view E σ a) [9] 1 (fun v => zk_run E (zk_VT E) M_X10_inRoom (C_X10_inRoom E) P PX K n 26 [l0, l1, l2, l3] (v :: r) (σ, sz, k, c))) ∧
  (∀ (n : Nat) (l0 l1 l3 : Option Value) (y2 : Int32) (r : List Value) (σ : zk_S) (sz k c : Nat), zk_run E (zk_VT E) M_X10_inRoom (C_X10_inRoom E) P PX K (n + 1) 26 [l0, l1, some (.int y2), l3] r (σ, sz, k, c) = zk_run E (zk_VT E) M_X10_inRoom (C_X10_inRoom E) P PX K n 27 [l0, l1, some (.int y2), l3] (.int y2 :: r) (σ, sz, k, c)) ∧
  (∀ (n : Nat) (l0 l1 l2 l3 : Option Value) (v0 : Value) (v1 : Value) (v2 : Value) (v3 : Value)  (σ : zk_S) (sz k c : Nat), zk_run E (zk_VT E) M_X10_inRoom (C_X10_inRoom E) P PX K (n + 1) 27 [l0, l1, l2, l3] [v0, v1, v2, v3] (σ, sz, k, c) = (k + 0 ≤ 2 ∧ c + 0 ≤ 12 ∧ (zk_rv (zk_VT E) (fun ci => Nat.beq ci 0) (sp_X0_goOn E)) [v3, v2, v1, v0] σ sz (fun v s2 z2 => zk_run E (zk_VT E) M_X10_inRoom (C_X10_inRoom E) P PX K n 30 [l0, l1, l2, l3] (zk_psh v []) (s2, z2, k + 0, c + 0)) (fun X s2 z2 => PX X s2 z2))) ∧
  (∀ (n : Nat) (l1 l2 l3 : Option Value) (y0 : Value) (r : List Value) (σ : zk_S) (sz k c : Nat), zk_run E (zk_VT E) M_X10_inRoom (C_X10_inRoom E) P PX K (n + 1) 30 [some y0, l1, l2, l3] r (σ, sz, k, c) = (zk_isr y0 ∧ zk_run E (zk_VT E) M_X10_inRoom (C_X10_inRoom E) P PX K n 31 [some y0, l1, l2, l3] (y0 :: r) (σ, sz, k, c))) ∧
  (∀ (n : Nat) (l0 l1 l2 l3 : Option Value) (a : Nat) (r : List Value) (σ : zk_S) (sz k c : Nat), zk_run E (zk_VT E) M_X10_inRoom (C_X10_inRoom E) P PX K (n + 1) 31 [l0, l1, l2, l3] (.ref a :: r) (σ, sz, k, c) = zk_fld (zk_view E σ a) [9] 2 (fun v => zk_run E (zk_VT E) M_X10_inRoom (C_X10_inRoom E) P PX K n 34 [l0, l1, l2, l3] (v :: r) (σ, sz, k, c))) ∧
  (∀ (n : Nat) (l0 l1 l2 l3 : Option Value) (a : Nat) (r : List Value) (σ : zk_S) (sz k c : Nat), zk_run E (zk_VT E) M_X10_inRoom (C_X10_inRoom E) P PX K (n + 1) 34 [l0, l1, l2, l3] (.ref a :: r) (σ, sz, k, c) = zk_fld (zk_view E σ a) [0] 0 (fun v => zk_run E (zk_VT E) M_X10_inRoom (C_X10_inRoom E) P PX K n 37 [l0, l1, l2, l3] (v :: r) (σ, sz, k, c))) ∧
  (∀ (n : Nat) (l0 l1 l2 : Option Value) (y3 : Value) (r : List Value) (σ : zk_S) (sz k c : Nat), zk_run E (zk_VT E) M_X10_inRoom (C_X10_inRoom E) P PX K (n + 1) 37 [l0, l1, l2, some y3] r (σ, sz, k, c) = (zk_isr y3 ∧ zk_run E (zk_VT E) M_X10_inRoom (C_X10_inRoom E) P PX K n 38 [l0, l1, l2, some y3] (y3 :: r) (σ, sz, k, c))) ∧
  (∀ (n : Nat) (l0 l1 l2 l3 : Option Value) (a : Nat) (r : List Value) (σ : zk_S) (sz k c : Nat), zk_run E (zk_VT E) M_X10_inRoom (C_X10_inRoom E) P PX K (n + 1) 38 [l0, l1, l2, l3] (.ref a :: r) (σ, sz, k, c) = zk_fld (zk_view E σ a) [5] 0 (fun v => zk_run E (zk_VT E) M_X10_inRoom (C_X10_inRoom E) P PX K n 41 [l0, l1, l2, l3] (v :: r) (σ, sz, k, c))) ∧
  (∀ (n : Nat) (l0 l1 l2 l3 : Option Value) (a : Nat) (i : Int32) (r : List Value) (σ : zk_S) (sz k c : Nat), zk_run E (zk_VT E) M_X10_inRoom (C_X10_inRoom E) P PX K (n + 1) 41 [l0, l1, l2, l3] (.int i :: .ref a :: r) (σ, sz, k, c) = zk_ild (zk_view E σ a) (zk_ar E 0) i (fun x => zk_run E (zk_VT E) M_X10_inRoom (C_X10_inRoom E) P PX K n 42 [l0, l1, l2, l3] (.int x :: r) (σ, sz, k, c))) ∧
  (∀ (n : Nat) (l0 l1 l2 l3 : Option Value) (x : Int32)  (σ : zk_S) (sz k c : Nat), zk_run E (zk_VT E) M_X10_inRoom (C_X10_inRoom E) P PX K (n + 1) 42 [l0, l1, l2, l3] [.int x] (σ, sz, k, c) = (zk_nok (some (.int)) x ∧ P (some (.int x)) σ sz ∧ k ≤ 2 ∧ c ≤ 12)) ∧
  (∀ (n : Nat) (l0 l1 l2 l3 : Option Value) (r : List Value) (w : zk_W zk_S), zk_go E (zk_VT E) M_X10_inRoom (C_X10_inRoom E) P PX K n 0 [l0, l1, l2, l3] r w = zk_run E (zk_VT E) M_X10_inRoom (C_X10_inRoom E) P PX K (n + 1) 0 [l0, l1, l2, l3] r w) := ⟨by intros; rfl, by intros; rfl, by intros; rfl, by intros; rfl, by intros; rfl, by intros; rfl, by intros; rfl, by intros; rfl, by intros; rfl, by intros; rfl, by intros; rfl, by intros; rfl, by intros; rfl, by intros; rfl, by intros; rfl, by intros; rfl, by intros; rfl, by intros; rfl, by intros; rfl, by intros; rfl, by intros; rfl, by intros; rfl, by intros; rfl, by intros; rfl⟩
theorem vc_X10_inRoom (E : zk_E) : zk_VC E (zk_VT E) M_X10_inRoom (C_X10_inRoom E) 4 (sp_X10_inRoom E) := by
  intro av σ sz P PX h
  obtain ⟨J, N, Q, O, U⟩ := σ
  unfold sp_X10_inRoom at h
  split at h
  case h_2 => exact h.elim
  rename_i a0 r n
  obtain ⟨rfl, h⟩ := h
  refine ⟨Nat.le_of_ble_eq_true rfl, fun G hG => ?_⟩
  change G 0 [some (.ref (zk_ad E 0)), some (.int r), some (.int n), none] [] ((J, N, Q, O, U), sz, 0, 0)
  try dsimp only at h
  obtain ⟨J1, N1, ⟨hmi, hxr, hrk⟩, h⟩ := h
  rcases h with ⟨j, hj, rfl, h1, h2⟩ | ⟨hr, h⟩
  · obtain ⟨b, hb, hbo, hOb⟩ := hxr.2.1.room hmi hj
    have hb : Q 2 j = some b := hb
    have hOb : O b = some (xrm N1 j) := hOb
    have hb1 := hbo.1
    have hj20 := hj.lt hmi
    have in19 : m_isIn (nI j) 0 19 = true := n_isIn (by decide) hj20 (by decide)
    have hin : vp_in (nI j) 20 := n_in hj20 (by decide)
    have hcl : (nI j).toNatClampNeg = j := n_cl (by omega)
    have g0 : ∀ F : Value → Prop, zk_fld (O b) [5] 0 F = F (.int (nI j)) := fun F => by rw [hOb]; simp [zk_fld_o, xrm, cR, zk_nth]
    cases q : m_isIn n 0 999 with
    | false =>
      have h := h1 q
      (refine hG 900 _ _ _ _ ?_; simp only [r_X10_inRoom, zk_kl_none, zk_kl_int, zk_kl_ref, zk_kl_null, zk_kl_long, zk_kl_rf, zk_isr_ref, zk_isr_null, zk_isr_rf9, zk_c1_int, zk_c1_ref, zk_c1_null, zk_c1_rf, zk_psh_some, zk_psh_none, zk_nok_int, zk_nok_bool0, zk_nok_bool1, zk_nok_b, zk_fok_0, zk_fok_1, zk_fok_2, zk_fok_n, zk_fok_rf, zb_f, zb_p, zb_i, zb_a, zb_s, zk_nth_0, zk_nth_s, zk_fld_o, zk_put_o, zk_rv_eq, zk_ri_eq, zk_is_o, List.mem_cons, List.not_mem_nil, or_false, false_or, or_true, true_or, and_true, true_and, not_false_iff, not_true_eq_false, true_implies, false_implies, imp_self, implies_true, forall_const, zk_lit, zk_uj_ap, zk_un_ap, zk_un_un, zk_uj_uj, Nat.reduceEqDiff, eq_self, zk_bq, Bool.true_or, Bool.false_or, Nat.le_refl, Nat.zero_add, Nat.add_zero, Nat.reduceAdd, Nat.reduceLeDiff, Nat.le_zero_eq, and_self, and_false, false_and, ite_true, ite_false, Nat.zero_le, List.length_cons, List.length_nil, Option.some.injEq, forall_eq', reduceCtorEq, spe_X10_roomThere, in19, hcl, hb, Bool.true_eq_false, spe_X10_checkTick, q, Bool.false_eq_true])
      exact fun z2 hz => h J N z2 (KE.refl J N) hrk hz
    | true =>
      have h := h2 q
      obtain ⟨t, ht, rfl⟩ := m_isIn_999 q
      rw [n_cl (by omega)] at h
      (refine hG 900 _ _ _ _ ?_; simp only [r_X10_inRoom, zk_kl_none, zk_kl_int, zk_kl_ref, zk_kl_null, zk_kl_long, zk_kl_rf, zk_isr_ref, zk_isr_null, zk_isr_rf9, zk_c1_int, zk_c1_ref, zk_c1_null, zk_c1_rf, zk_psh_some, zk_psh_none, zk_nok_int, zk_nok_bool0, zk_nok_bool1, zk_nok_b, zk_fok_0, zk_fok_1, zk_fok_2, zk_fok_n, zk_fok_rf, zb_f, zb_p, zb_i, zb_a, zb_s, zk_nth_0, zk_nth_s, zk_fld_o, zk_put_o, zk_rv_eq, zk_ri_eq, zk_is_o, List.mem_cons, List.not_mem_nil, or_false, false_or, or_true, true_or, and_true, true_and, not_false_iff, not_true_eq_false, true_implies, false_implies, imp_self, implies_true, forall_const, zk_lit, zk_uj_ap, zk_un_ap, zk_un_un, zk_uj_uj, Nat.reduceEqDiff, eq_self, zk_bq, Bool.true_or, Bool.false_or, Nat.le_refl, Nat.zero_add, Nat.add_zero, Nat.reduceAdd, Nat.reduceLeDiff, Nat.le_zero_eq, and_self, and_false, false_and, ite_true, ite_false, Nat.zero_le, List.length_cons, List.length_nil, Option.some.injEq, forall_eq', reduceCtorEq, spe_X10_roomThere, in19, hcl, hb, Bool.true_eq_false, spe_X10_checkTick, q, spe_X10_reckon])
      refine ⟨J1, N1, fl0 N1, hmi, hxr, hrk, fun J2 N2 hke hcf => ?_⟩
      have hx2 : XR E sz (J2, N2, Q, O, U) J1 N1 (fl0 N1) := hxr.cn (by funext k; exact hke.1 1 k (by omega) (by omega)) (hke.2 6 (by omega))
      simp only [r_X10_inRoom, zk_kl_none, zk_kl_int, zk_kl_ref, zk_kl_null, zk_kl_long, zk_kl_rf, zk_isr_ref, zk_isr_null, zk_isr_rf9, zk_c1_int, zk_c1_ref, zk_c1_null, zk_c1_rf, zk_psh_some, zk_psh_none, zk_nok_int, zk_nok_bool0, zk_nok_bool1, zk_nok_b, zk_fok_0, zk_fok_1, zk_fok_2, zk_fok_n, zk_fok_rf, zb_f, zb_p, zb_i, zb_a, zb_s, zk_nth_0, zk_nth_s, zk_fld_o, zk_put_o, zk_rv_eq, zk_ri_eq, zk_is_o, List.mem_cons, List.not_mem_nil, or_false, false_or, or_true, true_or, and_true, true_and, not_false_iff, not_true_eq_false, true_implies, false_implies, imp_self, implies_true, forall_const, zk_lit, zk_uj_ap, zk_un_ap, zk_un_un, zk_uj_uj, Nat.reduceEqDiff, eq_self, zk_bq, Bool.true_or, Bool.false_or, Nat.le_refl, Nat.zero_add, Nat.add_zero, Nat.reduceAdd, Nat.reduceLeDiff, Nat.le_zero_eq, and_self, and_false, false_and, ite_true, ite_false, Nat.zero_le, List.length_cons, List.length_nil, Option.some.injEq, forall_eq', reduceCtorEq, spe_X0_goOn]
      refine ⟨J1, N1, fl0 N1, t, hmi, hx2, fl0_ok hmi, hcf.2.1.wl, hcf.2.1.wd, ht, rfl, fun A B hA => ?_⟩
      have h := h J2 (zk_un (zk_un N2 17 B) 16 A) ((hke.un B (by decide)).un A (by decide)) (Or.inr hcf.un)
      have hAj := hA j hj20
      simp only [r_X10_inRoom, zk_kl_none, zk_kl_int, zk_kl_ref, zk_kl_null, zk_kl_long, zk_kl_rf, zk_isr_ref, zk_isr_null, zk_isr_rf9, zk_c1_int, zk_c1_ref, zk_c1_null, zk_c1_rf, zk_psh_some, zk_psh_none, zk_nok_int, zk_nok_bool0, zk_nok_bool1, zk_nok_b, zk_fok_0, zk_fok_1, zk_fok_2, zk_fok_n, zk_fok_rf, zb_f, zb_p, zb_i, zb_a, zb_s, zk_nth_0, zk_nth_s, zk_fld_o, zk_put_o, zk_rv_eq, zk_ri_eq, zk_is_o, List.mem_cons, List.not_mem_nil, or_false, false_or, or_true, true_or, and_true, true_and, not_false_iff, not_true_eq_false, true_implies, false_implies, imp_self, implies_true, forall_const, zk_lit, zk_uj_ap, zk_un_ap, zk_un_un, zk_uj_uj, Nat.reduceEqDiff, eq_self, zk_bq, Bool.true_or, Bool.false_or, Nat.le_refl, Nat.zero_add, Nat.add_zero, Nat.reduceAdd, Nat.reduceLeDiff, Nat.le_zero_eq, and_self, and_false, false_and, ite_true, ite_false, Nat.zero_le, List.length_cons, List.length_nil, Option.some.injEq, forall_eq', reduceCtorEq, zk_vd hb1, g0, hin, hcl, hAj]
      exact h
  · rcases hxr.noroom hmi.1 hr with q | ⟨q, q2⟩
    · (refine hG 900 _ _ _ _ ?_; simp only [r_X10_inRoom, zk_kl_none, zk_kl_int, zk_kl_ref, zk_kl_null, zk_kl_long, zk_kl_rf, zk_isr_ref, zk_isr_null, zk_isr_rf9, zk_c1_int, zk_c1_ref, zk_c1_null, zk_c1_rf, zk_psh_some, zk_psh_none, zk_nok_int, zk_nok_bool0, zk_nok_bool1, zk_nok_b, zk_fok_0, zk_fok_1, zk_fok_2, zk_fok_n, zk_fok_rf, zb_f, zb_p, zb_i, zb_a, zb_s, zk_nth_0, zk_nth_s, zk_fld_o, zk_put_o, zk_rv_eq, zk_ri_eq, zk_is_o, List.mem_cons, List.not_mem_nil, or_false, false_or, or_true, true_or, and_true, true_and, not_false_iff, not_true_eq_false, true_implies, false_implies, imp_self, implies_true, forall_const, zk_lit, zk_uj_ap, zk_un_ap, zk_un_un, zk_uj_uj, Nat.reduceEqDiff, eq_self, zk_bq, Bool.true_or, Bool.false_or, Nat.le_refl, Nat.zero_add, Nat.add_zero, Nat.reduceAdd, Nat.reduceLeDiff, Nat.le_zero_eq, and_self, and_false, false_and, ite_true, ite_false, Nat.zero_le, List.length_cons, List.length_nil, Option.some.injEq, forall_eq', reduceCtorEq, spe_X10_roomThere, q, Bool.false_eq_true])
      exact fun z2 hz => h J N z2 (KE.refl J N) hrk hz
    · (refine hG 900 _ _ _ _ ?_; simp only [r_X10_inRoom, zk_kl_none, zk_kl_int, zk_kl_ref, zk_kl_null, zk_kl_long, zk_kl_rf, zk_isr_ref, zk_isr_null, zk_isr_rf9, zk_c1_int, zk_c1_ref, zk_c1_null, zk_c1_rf, zk_psh_some, zk_psh_none, zk_nok_int, zk_nok_bool0, zk_nok_bool1, zk_nok_b, zk_fok_0, zk_fok_1, zk_fok_2, zk_fok_n, zk_fok_rf, zb_f, zb_p, zb_i, zb_a, zb_s, zk_nth_0, zk_nth_s, zk_fld_o, zk_put_o, zk_rv_eq, zk_ri_eq, zk_is_o, List.mem_cons, List.not_mem_nil, or_false, false_or, or_true, true_or, and_true, true_and, not_false_iff, not_true_eq_false, true_implies, false_implies, imp_self, implies_true, forall_const, zk_lit, zk_uj_ap, zk_un_ap, zk_un_un, zk_uj_uj, Nat.reduceEqDiff, eq_self, zk_bq, Bool.true_or, Bool.false_or, Nat.le_refl, Nat.zero_add, Nat.add_zero, Nat.reduceAdd, Nat.reduceLeDiff, Nat.le_zero_eq, and_self, and_false, false_and, ite_true, ite_false, Nat.zero_le, List.length_cons, List.length_nil, Option.some.injEq, forall_eq', reduceCtorEq, spe_X10_roomThere, q, q2])
      exact fun z2 hz => h J N z2 (KE.refl J N) hrk hz
theorem ct_X10_inRoom {l : Launch} (hl : l.stackTraces = false) (E : zk_E) : zk_C l E (zk_VT E) yX10_inRoom cX10_inRoom 4 (some (.int)) rm_X10_inRoom (sp_X10_inRoom E) := by
  refine zk_meth (M := M_X10_inRoom) (C := C_X10_inRoom E) hl (by decide +kernel) rfl (fun _ _ => rfl) (zk_VT_ok E) MO_X10_inRoom TO_X10_inRoom THo_X10_inRoom ?_ (vc_X10_inRoom E)
  exact fun p e s m args below meth c X pc n mc ms sp2 h => by
    have h2 := zk_lka_mem h
    simp only [List.mem_cons, List.not_mem_nil, or_false, Prod.mk.injEq] at h2
    rcases h2 with ⟨rfl, rfl, rfl, rfl, rfl⟩ | ⟨rfl, rfl, rfl, rfl, rfl⟩ | ⟨rfl, rfl, rfl, rfl, rfl⟩ | ⟨rfl, rfl, rfl, rfl, rfl⟩
    · exact zk_coV (idx := 76) X (ct_X10_roomThere hl E) (List.forall_mem_cons.mpr ⟨zk_wi 105 (by decide +kernel) rfl, List.forall_mem_cons.mpr ⟨zk_wi 107 (by decide +kernel) rfl, List.forall_mem_cons.mpr ⟨zk_wp 2 (by decide +kernel) rfl, List.forall_mem_cons.mpr ⟨zk_wi 2 (by decide +kernel) rfl, List.forall_mem_cons.mpr ⟨zk_wi 108 (by decide +kernel) rfl, fun _ h => absurd h List.not_mem_nil⟩⟩⟩⟩⟩) (fun ci h => by
      have h := Nat.eq_of_beq_eq_true h
      subst h
      exact ⟨_, _, rfl⟩) (by decide +kernel) ⟨by decide, by decide, by decide +kernel⟩ ⟨by decide, by decide⟩
    · exact zk_coS (idx := 231) X (ct_X10_checkTick hl E) (List.forall_mem_cons.mpr ⟨zk_wi 284 (by decide +kernel) rfl, List.forall_mem_cons.mpr ⟨zk_wi 285 (by decide +kernel) rfl, List.forall_mem_cons.mpr ⟨zk_wi 2 (by decide +kernel) rfl, List.forall_mem_cons.mpr ⟨zk_wi 286 (by decide +kernel) rfl, fun _ h => absurd h List.not_mem_nil⟩⟩⟩⟩) (by decide +kernel) ⟨by decide, by decide, by decide +kernel⟩ ⟨by decide, by decide⟩
    · exact zk_coV (idx := 197) X (ct_X10_reckon hl E) (List.forall_mem_cons.mpr ⟨zk_wi 110 (by decide +kernel) rfl, List.forall_mem_cons.mpr ⟨zk_wi 112 (by decide +kernel) rfl, List.forall_mem_cons.mpr ⟨zk_wp 3 (by decide +kernel) rfl, List.forall_mem_cons.mpr ⟨zk_wi 2 (by decide +kernel) rfl, List.forall_mem_cons.mpr ⟨zk_wi 113 (by decide +kernel) rfl, fun _ h => absurd h List.not_mem_nil⟩⟩⟩⟩⟩) (fun ci h => by
      have h := Nat.eq_of_beq_eq_true h
      subst h
      exact ⟨_, _, rfl⟩) (by decide +kernel) ⟨by decide, by decide, by decide +kernel⟩ ⟨by decide, by decide⟩
    · exact zk_coV (idx := 235) X (ct_X0_goOn hl E) (List.forall_mem_cons.mpr ⟨zk_wi 303 (by decide +kernel) rfl, List.forall_mem_cons.mpr ⟨zk_wi 304 (by decide +kernel) rfl, List.forall_mem_cons.mpr ⟨zk_wi 305 (by decide +kernel) rfl, List.forall_mem_cons.mpr ⟨zk_wi 5 (by decide +kernel) rfl, List.forall_mem_cons.mpr ⟨zk_wi 306 (by decide +kernel) rfl, fun _ h => absurd h List.not_mem_nil⟩⟩⟩⟩⟩) (fun ci h => by
      have h := Nat.eq_of_beq_eq_true h
      subst h
      exact ⟨_, _, rfl⟩) (by decide +kernel) ⟨by decide, by decide, by decide +kernel⟩ ⟨by decide, by decide⟩
def sp_X10_faults (E : zk_E) : zk_Sp zk_S := fun av σ sz P PX => match av with
  | [.ref a] => a = zk_ad E 0 ∧ ∃ J N, IC E sz σ J N ∧ ZC J N σ sz (some (.int (nI (a_faults J N)))) P
  | _ => False
theorem spe_X10_faults (E : zk_E) (a : Nat) (σ : zk_S) (sz : Nat) (P : zk_P zk_S) (PX : zk_X zk_S) : sp_X10_faults E [.ref a] σ sz P PX = (a = zk_ad E 0 ∧ ∃ J N, IC E sz σ J N ∧ ZC J N σ sz (some (.int (nI (a_faults J N)))) P) := propext Iff.rfl
def C_X10_faults (E : zk_E) : zk_Cl zk_S := zk_lka [(1, 1, 0, 0, zk_rv (zk_VT E) (fun ci => Nat.beq ci 9) (sp_X10_reckon E))]
theorem r_X10_faults (E : zk_E) (P : zk_P zk_S) (PX : zk_X zk_S) (K : Nat → zk_L → List Value → zk_W zk_S → Prop) : (∀ (n : Nat)  (y0 : Value) (r : List Value) (σ : zk_S) (sz k c : Nat), zk_run E (zk_VT E) M_X10_faults (C_X10_faults E) P PX K (n + 1) 0 [some y0] r (σ, sz, k, c) = (zk_isr y0 ∧ zk_run E (zk_VT E) M_X10_faults (C_X10_faults E) P PX K n 1 [some y0] (y0 :: r) (σ, sz, k, c))) ∧
  (∀ (n : Nat) (l0 : Option Value) (v0 : Value)  (σ : zk_S) (sz k c : Nat), zk_run E (zk_VT E) M_X10_faults (C_X10_faults E) P PX K (n + 1) 1 [l0] [v0] (σ, sz, k, c) = (k + 0 ≤ 0 ∧ c + 0 ≤ 0 ∧ (zk_rv (zk_VT E) (fun ci => Nat.beq ci 9) (sp_X10_reckon E)) [v0] σ sz (fun v s2 z2 => zk_run E (zk_VT E) M_X10_faults (C_X10_faults E) P PX K n 4 [l0] (zk_psh v []) (s2, z2, k + 0, c + 0)) (fun X s2 z2 => PX X s2 z2))) ∧
  (∀ (n : Nat)  (y0 : Value) (r : List Value) (σ : zk_S) (sz k c : Nat), zk_run E (zk_VT E) M_X10_faults (C_X10_faults E) P PX K (n + 1) 4 [some y0] r (σ, sz, k, c) = (zk_isr y0 ∧ zk_run E (zk_VT E) M_X10_faults (C_X10_faults E) P PX K n 5 [some y0] (y0 :: r) (σ, sz, k, c))) ∧
  (∀ (n : Nat) (l0 : Option Value) (a : Nat) (r : List Value) (σ : zk_S) (sz k c : Nat), zk_run E (zk_VT E) M_X10_faults (C_X10_faults E) P PX K (n + 1) 5 [l0] (.ref a :: r) (σ, sz, k, c) = zk_fld (zk_view E σ a) [9] 3 (fun v => zk_run E (zk_VT E) M_X10_faults (C_X10_faults E) P PX K n 8 [l0] (v :: r) (σ, sz, k, c))) ∧
  (∀ (n : Nat) (l0 : Option Value) (a : Nat) (r : List Value) (σ : zk_S) (sz k c : Nat), zk_run E (zk_VT E) M_X10_faults (C_X10_faults E) P PX K (n + 1) 8 [l0] (.ref a :: r) (σ, sz, k, c) = zk_fld (zk_view E σ a) [2] 3 (fun v => zk_run E (zk_VT E) M_X10_faults (C_X10_faults E) P PX K n 11 [l0] (v :: r) (σ, sz, k, c))) ∧
  (∀ (n : Nat) (l0 : Option Value) (x : Int32)  (σ : zk_S) (sz k c : Nat), zk_run E (zk_VT E) M_X10_faults (C_X10_faults E) P PX K (n + 1) 11 [l0] [.int x] (σ, sz, k, c) = (zk_nok (some (.int)) x ∧ P (some (.int x)) σ sz ∧ k ≤ 0 ∧ c ≤ 0)) ∧
  (∀ (n : Nat) (l0 : Option Value) (r : List Value) (w : zk_W zk_S), zk_go E (zk_VT E) M_X10_faults (C_X10_faults E) P PX K n 0 [l0] r w = zk_run E (zk_VT E) M_X10_faults (C_X10_faults E) P PX K (n + 1) 0 [l0] r w) := ⟨by intros; rfl, by intros; rfl, by intros; rfl, by intros; rfl, by intros; rfl, by intros; rfl, by intros; rfl⟩
theorem vc_X10_faults (E : zk_E) : zk_VC E (zk_VT E) M_X10_faults (C_X10_faults E) 1 (sp_X10_faults E) := by
  intro av σ sz P PX h
  obtain ⟨J, N, Q, O, U⟩ := σ
  unfold sp_X10_faults at h
  split at h
  case h_2 => exact h.elim
  rename_i a0
  obtain ⟨rfl, h⟩ := h
  refine ⟨Nat.le_of_ble_eq_true rfl, fun G hG => ?_⟩
  change G 0 [some (.ref (zk_ad E 0))] [] ((J, N, Q, O, U), sz, 0, 0)
  try dsimp only at h
  obtain ⟨J1, N1, ⟨hmi, hxr, hrk⟩, h⟩ := h
  (refine hG 900 _ _ _ _ ?_; simp only [r_X10_faults, zk_kl_none, zk_kl_int, zk_kl_ref, zk_kl_null, zk_kl_long, zk_kl_rf, zk_isr_ref, zk_isr_null, zk_isr_rf9, zk_c1_int, zk_c1_ref, zk_c1_null, zk_c1_rf, zk_psh_some, zk_psh_none, zk_nok_int, zk_nok_bool0, zk_nok_bool1, zk_nok_b, zk_fok_0, zk_fok_1, zk_fok_2, zk_fok_n, zk_fok_rf, zb_f, zb_p, zb_i, zb_a, zb_s, zk_nth_0, zk_nth_s, zk_fld_o, zk_put_o, zk_rv_eq, zk_ri_eq, zk_is_o, List.mem_cons, List.not_mem_nil, or_false, false_or, or_true, true_or, and_true, true_and, not_false_iff, not_true_eq_false, true_implies, false_implies, imp_self, implies_true, forall_const, zk_lit, zk_uj_ap, zk_un_ap, zk_un_un, zk_uj_uj, Nat.reduceEqDiff, eq_self, zk_bq, Bool.true_or, Bool.false_or, Nat.le_refl, Nat.zero_add, Nat.add_zero, Nat.reduceAdd, Nat.reduceLeDiff, Nat.le_zero_eq, and_self, and_false, false_and, ite_true, ite_false, Nat.zero_le, List.length_cons, List.length_nil, Option.some.injEq, forall_eq', reduceCtorEq, spe_X10_reckon])
  refine ⟨J1, N1, fl0 N1, hmi, hxr, hrk, fun J2 N2 hke hcf => ?_⟩
  have h := h J2 N2 hke (Or.inr hcf)
  have h3 := hcf.2.2.1
  simp only [r_X10_faults, zk_kl_none, zk_kl_int, zk_kl_ref, zk_kl_null, zk_kl_long, zk_kl_rf, zk_isr_ref, zk_isr_null, zk_isr_rf9, zk_c1_int, zk_c1_ref, zk_c1_null, zk_c1_rf, zk_psh_some, zk_psh_none, zk_nok_int, zk_nok_bool0, zk_nok_bool1, zk_nok_b, zk_fok_0, zk_fok_1, zk_fok_2, zk_fok_n, zk_fok_rf, zb_f, zb_p, zb_i, zb_a, zb_s, zk_nth_0, zk_nth_s, zk_fld_o, zk_put_o, zk_rv_eq, zk_ri_eq, zk_is_o, List.mem_cons, List.not_mem_nil, or_false, false_or, or_true, true_or, and_true, true_and, not_false_iff, not_true_eq_false, true_implies, false_implies, imp_self, implies_true, forall_const, zk_lit, zk_uj_ap, zk_un_ap, zk_un_un, zk_uj_uj, Nat.reduceEqDiff, eq_self, zk_bq, Bool.true_or, Bool.false_or, Nat.le_refl, Nat.zero_add, Nat.add_zero, Nat.reduceAdd, Nat.reduceLeDiff, Nat.le_zero_eq, and_self, and_false, false_and, ite_true, ite_false, Nat.zero_le, List.length_cons, List.length_nil, Option.some.injEq, forall_eq', reduceCtorEq, h3]
  exact h
theorem ct_X10_faults {l : Launch} (hl : l.stackTraces = false) (E : zk_E) : zk_C l E (zk_VT E) yX10_faults cX10_faults 1 (some (.int)) rm_X10_faults (sp_X10_faults E) := by
  refine zk_meth (M := M_X10_faults) (C := C_X10_faults E) hl (by decide +kernel) rfl (fun _ _ => rfl) (zk_VT_ok E) MO_X10_faults TO_X10_faults THo_X10_faults ?_ (vc_X10_faults E)
  exact fun p e s m args below meth c X pc n mc ms sp2 h => by
    have h2 := zk_lka_mem h
    simp only [List.mem_cons, List.not_mem_nil, or_false, Prod.mk.injEq] at h2
    rcases h2 with ⟨rfl, rfl, rfl, rfl, rfl⟩
    exact zk_coV (idx := 197) X (ct_X10_reckon hl E) (List.forall_mem_cons.mpr ⟨zk_wi 110 (by decide +kernel) rfl, List.forall_mem_cons.mpr ⟨zk_wi 112 (by decide +kernel) rfl, List.forall_mem_cons.mpr ⟨zk_wp 3 (by decide +kernel) rfl, List.forall_mem_cons.mpr ⟨zk_wi 2 (by decide +kernel) rfl, List.forall_mem_cons.mpr ⟨zk_wi 113 (by decide +kernel) rfl, fun _ h => absurd h List.not_mem_nil⟩⟩⟩⟩⟩) (fun ci h => by
      have h := Nat.eq_of_beq_eq_true h
      subst h
      exact ⟨_, _, rfl⟩) (by decide +kernel) ⟨by decide, by decide, by decide +kernel⟩ ⟨by decide, by decide⟩
theorem fqL_at {L : zk_F3} {i : Nat} (h : i < L.length) : fqL L i 0 = L[i].1 ∧ fqL L i 1 = L[i].2.1 ∧ fqL L i 2 = L[i].2.2 := by
  unfold fqL
  rw [List.getElem?_eq_getElem h]
  exact ⟨rfl, rfl, rfl⟩
theorem faults_210 (J N : Nat → Nat → Int32) : a_faults J N ≤ 210 := a_fl_len2 J N 10
def sp_X10_ruleOf (E : zk_E) : zk_Sp zk_S := fun av σ sz P PX => match av with
  | [.ref a, .int i] => a = zk_ad E 0 ∧ ∃ J N, IC E sz σ J N ∧ (m_isIn i 0 (nI (a_faults J N) - 1) = false → ZX J N σ sz "java/lang/IndexOutOfBoundsException" PX) ∧ (m_isIn i 0 (nI (a_faults J N) - 1) = true → ZC J N σ sz (some (.int (a_fq J N i.toNatClampNeg 0))) P)
  | _ => False
theorem spe_X10_ruleOf (E : zk_E) (a : Nat) (i : Int32) (σ : zk_S) (sz : Nat) (P : zk_P zk_S) (PX : zk_X zk_S) : sp_X10_ruleOf E [.ref a, .int i] σ sz P PX = (a = zk_ad E 0 ∧ ∃ J N, IC E sz σ J N ∧ (m_isIn i 0 (nI (a_faults J N) - 1) = false → ZX J N σ sz "java/lang/IndexOutOfBoundsException" PX) ∧ (m_isIn i 0 (nI (a_faults J N) - 1) = true → ZC J N σ sz (some (.int (a_fq J N i.toNatClampNeg 0))) P)) := propext Iff.rfl
def C_X10_ruleOf (E : zk_E) : zk_Cl zk_S := zk_lka [(1, 1, 0, 0, zk_rv (zk_VT E) (fun ci => Nat.beq ci 9) (sp_X10_reckon E)), (6, 2, 1, 6, zk_rv (zk_VT E) (fun ci => Nat.beq ci 9) (sp_X10_checkFault E))]
theorem r_X10_ruleOf (E : zk_E) (P : zk_P zk_S) (PX : zk_X zk_S) (K : Nat → zk_L → List Value → zk_W zk_S → Prop) : (∀ (n : Nat) (l1 : Option Value) (y0 : Value) (r : List Value) (σ : zk_S) (sz k c : Nat), zk_run E (zk_VT E) M_X10_ruleOf (C_X10_ruleOf E) P PX K (n + 1) 0 [some y0, l1] r (σ, sz, k, c) = (zk_isr y0 ∧ zk_run E (zk_VT E) M_X10_ruleOf (C_X10_ruleOf E) P PX K n 1 [some y0, l1] (y0 :: r) (σ, sz, k, c))) ∧
  (∀ (n : Nat) (l0 l1 : Option Value) (v0 : Value)  (σ : zk_S) (sz k c : Nat), zk_run E (zk_VT E) M_X10_ruleOf (C_X10_ruleOf E) P PX K (n + 1) 1 [l0, l1] [v0] (σ, sz, k, c) = (k + 0 ≤ 1 ∧ c + 0 ≤ 6 ∧ (zk_rv (zk_VT E) (fun ci => Nat.beq ci 9) (sp_X10_reckon E)) [v0] σ sz (fun v s2 z2 => zk_run E (zk_VT E) M_X10_ruleOf (C_X10_ruleOf E) P PX K n 4 [l0, l1] (zk_psh v []) (s2, z2, k + 0, c + 0)) (fun X s2 z2 => PX X s2 z2))) ∧
  (∀ (n : Nat) (l1 : Option Value) (y0 : Value) (r : List Value) (σ : zk_S) (sz k c : Nat), zk_run E (zk_VT E) M_X10_ruleOf (C_X10_ruleOf E) P PX K (n + 1) 4 [some y0, l1] r (σ, sz, k, c) = (zk_isr y0 ∧ zk_run E (zk_VT E) M_X10_ruleOf (C_X10_ruleOf E) P PX K n 5 [some y0, l1] (y0 :: r) (σ, sz, k, c))) ∧
  (∀ (n : Nat) (l0 : Option Value) (y1 : Int32) (r : List Value) (σ : zk_S) (sz k c : Nat), zk_run E (zk_VT E) M_X10_ruleOf (C_X10_ruleOf E) P PX K (n + 1) 5 [l0, some (.int y1)] r (σ, sz, k, c) = zk_run E (zk_VT E) M_X10_ruleOf (C_X10_ruleOf E) P PX K n 6 [l0, some (.int y1)] (.int y1 :: r) (σ, sz, k, c)) ∧
  (∀ (n : Nat) (l0 l1 : Option Value) (v0 : Value) (v1 : Value)  (σ : zk_S) (sz k c : Nat), zk_run E (zk_VT E) M_X10_ruleOf (C_X10_ruleOf E) P PX K (n + 1) 6 [l0, l1] [v0, v1] (σ, sz, k, c) = (k + 1 ≤ 1 ∧ c + 6 ≤ 6 ∧ (zk_rv (zk_VT E) (fun ci => Nat.beq ci 9) (sp_X10_checkFault E)) [v1, v0] σ sz (fun v s2 z2 => zk_run E (zk_VT E) M_X10_ruleOf (C_X10_ruleOf E) P PX K n 9 [l0, l1] (zk_psh v []) (s2, z2, k + 1, c + 6)) (fun X s2 z2 => PX X s2 z2))) ∧
  (∀ (n : Nat) (l1 : Option Value) (y0 : Value) (r : List Value) (σ : zk_S) (sz k c : Nat), zk_run E (zk_VT E) M_X10_ruleOf (C_X10_ruleOf E) P PX K (n + 1) 9 [some y0, l1] r (σ, sz, k, c) = (zk_isr y0 ∧ zk_run E (zk_VT E) M_X10_ruleOf (C_X10_ruleOf E) P PX K n 10 [some y0, l1] (y0 :: r) (σ, sz, k, c))) ∧
  (∀ (n : Nat) (l0 l1 : Option Value) (a : Nat) (r : List Value) (σ : zk_S) (sz k c : Nat), zk_run E (zk_VT E) M_X10_ruleOf (C_X10_ruleOf E) P PX K (n + 1) 10 [l0, l1] (.ref a :: r) (σ, sz, k, c) = zk_fld (zk_view E σ a) [9] 3 (fun v => zk_run E (zk_VT E) M_X10_ruleOf (C_X10_ruleOf E) P PX K n 13 [l0, l1] (v :: r) (σ, sz, k, c))) ∧
  (∀ (n : Nat) (l0 l1 : Option Value) (a : Nat) (r : List Value) (σ : zk_S) (sz k c : Nat), zk_run E (zk_VT E) M_X10_ruleOf (C_X10_ruleOf E) P PX K (n + 1) 13 [l0, l1] (.ref a :: r) (σ, sz, k, c) = zk_fld (zk_view E σ a) [2] 0 (fun v => zk_run E (zk_VT E) M_X10_ruleOf (C_X10_ruleOf E) P PX K n 16 [l0, l1] (v :: r) (σ, sz, k, c))) ∧
  (∀ (n : Nat) (l0 : Option Value) (y1 : Int32) (r : List Value) (σ : zk_S) (sz k c : Nat), zk_run E (zk_VT E) M_X10_ruleOf (C_X10_ruleOf E) P PX K (n + 1) 16 [l0, some (.int y1)] r (σ, sz, k, c) = zk_run E (zk_VT E) M_X10_ruleOf (C_X10_ruleOf E) P PX K n 17 [l0, some (.int y1)] (.int y1 :: r) (σ, sz, k, c)) ∧
  (∀ (n : Nat) (l0 l1 : Option Value) (a : Nat) (i : Int32) (r : List Value) (σ : zk_S) (sz k c : Nat), zk_run E (zk_VT E) M_X10_ruleOf (C_X10_ruleOf E) P PX K (n + 1) 17 [l0, l1] (.int i :: .ref a :: r) (σ, sz, k, c) = zk_ild (zk_view E σ a) (zk_ar E 0) i (fun x => zk_run E (zk_VT E) M_X10_ruleOf (C_X10_ruleOf E) P PX K n 18 [l0, l1] (.int x :: r) (σ, sz, k, c))) ∧
  (∀ (n : Nat) (l0 l1 : Option Value) (x : Int32)  (σ : zk_S) (sz k c : Nat), zk_run E (zk_VT E) M_X10_ruleOf (C_X10_ruleOf E) P PX K (n + 1) 18 [l0, l1] [.int x] (σ, sz, k, c) = (zk_nok (some (.int)) x ∧ P (some (.int x)) σ sz ∧ k ≤ 1 ∧ c ≤ 6)) ∧
  (∀ (n : Nat) (l0 l1 : Option Value) (r : List Value) (w : zk_W zk_S), zk_go E (zk_VT E) M_X10_ruleOf (C_X10_ruleOf E) P PX K n 0 [l0, l1] r w = zk_run E (zk_VT E) M_X10_ruleOf (C_X10_ruleOf E) P PX K (n + 1) 0 [l0, l1] r w) := ⟨by intros; rfl, by intros; rfl, by intros; rfl, by intros; rfl, by intros; rfl, by intros; rfl, by intros; rfl, by intros; rfl, by intros; rfl, by intros; rfl, by intros; rfl, by intros; rfl⟩
theorem vc_X10_ruleOf (E : zk_E) : zk_VC E (zk_VT E) M_X10_ruleOf (C_X10_ruleOf E) 2 (sp_X10_ruleOf E) := by
  intro av σ sz P PX h
  obtain ⟨J, N, Q, O, U⟩ := σ
  unfold sp_X10_ruleOf at h
  split at h
  case h_2 => exact h.elim
  rename_i a0 i
  obtain ⟨rfl, h⟩ := h
  refine ⟨Nat.le_of_ble_eq_true rfl, fun G hG => ?_⟩
  change G 0 [some (.ref (zk_ad E 0)), some (.int i)] [] ((J, N, Q, O, U), sz, 0, 0)
  try dsimp only at h
  obtain ⟨J1, N1, ⟨hmi, hxr, hrk⟩, h1, h2⟩ := h
  (refine hG 900 _ _ _ _ ?_; simp only [r_X10_ruleOf, zk_kl_none, zk_kl_int, zk_kl_ref, zk_kl_null, zk_kl_long, zk_kl_rf, zk_isr_ref, zk_isr_null, zk_isr_rf9, zk_c1_int, zk_c1_ref, zk_c1_null, zk_c1_rf, zk_psh_some, zk_psh_none, zk_nok_int, zk_nok_bool0, zk_nok_bool1, zk_nok_b, zk_fok_0, zk_fok_1, zk_fok_2, zk_fok_n, zk_fok_rf, zb_f, zb_p, zb_i, zb_a, zb_s, zk_nth_0, zk_nth_s, zk_fld_o, zk_put_o, zk_rv_eq, zk_ri_eq, zk_is_o, List.mem_cons, List.not_mem_nil, or_false, false_or, or_true, true_or, and_true, true_and, not_false_iff, not_true_eq_false, true_implies, false_implies, imp_self, implies_true, forall_const, zk_lit, zk_uj_ap, zk_un_ap, zk_un_un, zk_uj_uj, Nat.reduceEqDiff, eq_self, zk_bq, Bool.true_or, Bool.false_or, Nat.le_refl, Nat.zero_add, Nat.add_zero, Nat.reduceAdd, Nat.reduceLeDiff, Nat.le_zero_eq, and_self, and_false, false_and, ite_true, ite_false, Nat.zero_le, List.length_cons, List.length_nil, Option.some.injEq, forall_eq', reduceCtorEq, spe_X10_reckon])
  refine ⟨J1, N1, fl0 N1, hmi, hxr, hrk, fun J2 N2 hke hcf => ?_⟩
  have h3 : J2 18 3 = nI (a_faults J1 N1) := hcf.2.2.1
  have hle := faults_210 J1 N1
  cases q : m_isIn i 0 (nI (a_faults J1 N1) - 1) with
  | false =>
    have h := h1 q
    simp only [r_X10_ruleOf, zk_kl_none, zk_kl_int, zk_kl_ref, zk_kl_null, zk_kl_long, zk_kl_rf, zk_isr_ref, zk_isr_null, zk_isr_rf9, zk_c1_int, zk_c1_ref, zk_c1_null, zk_c1_rf, zk_psh_some, zk_psh_none, zk_nok_int, zk_nok_bool0, zk_nok_bool1, zk_nok_b, zk_fok_0, zk_fok_1, zk_fok_2, zk_fok_n, zk_fok_rf, zb_f, zb_p, zb_i, zb_a, zb_s, zk_nth_0, zk_nth_s, zk_fld_o, zk_put_o, zk_rv_eq, zk_ri_eq, zk_is_o, List.mem_cons, List.not_mem_nil, or_false, false_or, or_true, true_or, and_true, true_and, not_false_iff, not_true_eq_false, true_implies, false_implies, imp_self, implies_true, forall_const, zk_lit, zk_uj_ap, zk_un_ap, zk_un_un, zk_uj_uj, Nat.reduceEqDiff, eq_self, zk_bq, Bool.true_or, Bool.false_or, Nat.le_refl, Nat.zero_add, Nat.add_zero, Nat.reduceAdd, Nat.reduceLeDiff, Nat.le_zero_eq, and_self, and_false, false_and, ite_true, ite_false, Nat.zero_le, List.length_cons, List.length_nil, Option.some.injEq, forall_eq', reduceCtorEq, spe_X10_checkFault, h3, q, Bool.false_eq_true]
    exact fun z2 hz => h J2 N2 z2 hke (Or.inr hcf) hz
  | true =>
    have h := h2 q J2 N2 hke (Or.inr hcf)
    obtain ⟨k, hk, rfl⟩ := m_isIn_lt (by omega) q
    rw [n_cl (by omega)] at h
    have hin : vp_in (nI k) 210 := n_in (by omega) (by decide)
    have hcl : (nI k).toNatClampNeg = k := n_cl (by omega)
    have hk2 : k < (a_fl J1 N1 10).length := hk
    have hat := (hcf.2.2.2 k hk2).1
    rw [← (fqL_at hk2).1] at hat
    have hat2 : _ = a_fq J1 N1 k 0 := hat
    simp only [r_X10_ruleOf, zk_kl_none, zk_kl_int, zk_kl_ref, zk_kl_null, zk_kl_long, zk_kl_rf, zk_isr_ref, zk_isr_null, zk_isr_rf9, zk_c1_int, zk_c1_ref, zk_c1_null, zk_c1_rf, zk_psh_some, zk_psh_none, zk_nok_int, zk_nok_bool0, zk_nok_bool1, zk_nok_b, zk_fok_0, zk_fok_1, zk_fok_2, zk_fok_n, zk_fok_rf, zb_f, zb_p, zb_i, zb_a, zb_s, zk_nth_0, zk_nth_s, zk_fld_o, zk_put_o, zk_rv_eq, zk_ri_eq, zk_is_o, List.mem_cons, List.not_mem_nil, or_false, false_or, or_true, true_or, and_true, true_and, not_false_iff, not_true_eq_false, true_implies, false_implies, imp_self, implies_true, forall_const, zk_lit, zk_uj_ap, zk_un_ap, zk_un_un, zk_uj_uj, Nat.reduceEqDiff, eq_self, zk_bq, Bool.true_or, Bool.false_or, Nat.le_refl, Nat.zero_add, Nat.add_zero, Nat.reduceAdd, Nat.reduceLeDiff, Nat.le_zero_eq, and_self, and_false, false_and, ite_true, ite_false, Nat.zero_le, List.length_cons, List.length_nil, Option.some.injEq, forall_eq', reduceCtorEq, spe_X10_checkFault, h3, q, Bool.true_eq_false, hin, hcl, hat2]
    exact h
theorem ct_X10_ruleOf {l : Launch} (hl : l.stackTraces = false) (E : zk_E) : zk_C l E (zk_VT E) yX10_ruleOf cX10_ruleOf 2 (some (.int)) rm_X10_ruleOf (sp_X10_ruleOf E) := by
  refine zk_meth (M := M_X10_ruleOf) (C := C_X10_ruleOf E) hl (by decide +kernel) rfl (fun _ _ => rfl) (zk_VT_ok E) MO_X10_ruleOf TO_X10_ruleOf THo_X10_ruleOf ?_ (vc_X10_ruleOf E)
  exact fun p e s m args below meth c X pc n mc ms sp2 h => by
    have h2 := zk_lka_mem h
    simp only [List.mem_cons, List.not_mem_nil, or_false, Prod.mk.injEq] at h2
    rcases h2 with ⟨rfl, rfl, rfl, rfl, rfl⟩ | ⟨rfl, rfl, rfl, rfl, rfl⟩
    · exact zk_coV (idx := 197) X (ct_X10_reckon hl E) (List.forall_mem_cons.mpr ⟨zk_wi 110 (by decide +kernel) rfl, List.forall_mem_cons.mpr ⟨zk_wi 112 (by decide +kernel) rfl, List.forall_mem_cons.mpr ⟨zk_wp 3 (by decide +kernel) rfl, List.forall_mem_cons.mpr ⟨zk_wi 2 (by decide +kernel) rfl, List.forall_mem_cons.mpr ⟨zk_wi 113 (by decide +kernel) rfl, fun _ h => absurd h List.not_mem_nil⟩⟩⟩⟩⟩) (fun ci h => by
      have h := Nat.eq_of_beq_eq_true h
      subst h
      exact ⟨_, _, rfl⟩) (by decide +kernel) ⟨by decide, by decide, by decide +kernel⟩ ⟨by decide, by decide⟩
    · exact zk_coV (idx := 249) X (ct_X10_checkFault hl E) (List.forall_mem_cons.mpr ⟨zk_wi 323 (by decide +kernel) rfl, List.forall_mem_cons.mpr ⟨zk_wi 325 (by decide +kernel) rfl, List.forall_mem_cons.mpr ⟨zk_wp 5 (by decide +kernel) rfl, List.forall_mem_cons.mpr ⟨zk_wi 2 (by decide +kernel) rfl, List.forall_mem_cons.mpr ⟨zk_wi 326 (by decide +kernel) rfl, fun _ h => absurd h List.not_mem_nil⟩⟩⟩⟩⟩) (fun ci h => by
      have h := Nat.eq_of_beq_eq_true h
      subst h
      exact ⟨_, _, rfl⟩) (by decide +kernel) ⟨by decide, by decide, by decide +kernel⟩ ⟨by decide, by decide⟩
def sp_X10_whereOf (E : zk_E) : zk_Sp zk_S := fun av σ sz P PX => match av with
  | [.ref a, .int i] => a = zk_ad E 0 ∧ ∃ J N, IC E sz σ J N ∧ (m_isIn i 0 (nI (a_faults J N) - 1) = false → ZX J N σ sz "java/lang/IndexOutOfBoundsException" PX) ∧ (m_isIn i 0 (nI (a_faults J N) - 1) = true → ZC J N σ sz (some (.int (a_fq J N i.toNatClampNeg 1))) P)
  | _ => False
theorem spe_X10_whereOf (E : zk_E) (a : Nat) (i : Int32) (σ : zk_S) (sz : Nat) (P : zk_P zk_S) (PX : zk_X zk_S) : sp_X10_whereOf E [.ref a, .int i] σ sz P PX = (a = zk_ad E 0 ∧ ∃ J N, IC E sz σ J N ∧ (m_isIn i 0 (nI (a_faults J N) - 1) = false → ZX J N σ sz "java/lang/IndexOutOfBoundsException" PX) ∧ (m_isIn i 0 (nI (a_faults J N) - 1) = true → ZC J N σ sz (some (.int (a_fq J N i.toNatClampNeg 1))) P)) := propext Iff.rfl
def C_X10_whereOf (E : zk_E) : zk_Cl zk_S := zk_lka [(1, 1, 0, 0, zk_rv (zk_VT E) (fun ci => Nat.beq ci 9) (sp_X10_reckon E)), (6, 2, 1, 6, zk_rv (zk_VT E) (fun ci => Nat.beq ci 9) (sp_X10_checkFault E))]
theorem r_X10_whereOf (E : zk_E) (P : zk_P zk_S) (PX : zk_X zk_S) (K : Nat → zk_L → List Value → zk_W zk_S → Prop) : (∀ (n : Nat) (l1 : Option Value) (y0 : Value) (r : List Value) (σ : zk_S) (sz k c : Nat), zk_run E (zk_VT E) M_X10_whereOf (C_X10_whereOf E) P PX K (n + 1) 0 [some y0, l1] r (σ, sz, k, c) = (zk_isr y0 ∧ zk_run E (zk_VT E) M_X10_whereOf (C_X10_whereOf E) P PX K n 1 [some y0, l1] (y0 :: r) (σ, sz, k, c))) ∧
  (∀ (n : Nat) (l0 l1 : Option Value) (v0 : Value)  (σ : zk_S) (sz k c : Nat), zk_run E (zk_VT E) M_X10_whereOf (C_X10_whereOf E) P PX K (n + 1) 1 [l0, l1] [v0] (σ, sz, k, c) = (k + 0 ≤ 1 ∧ c + 0 ≤ 6 ∧ (zk_rv (zk_VT E) (fun ci => Nat.beq ci 9) (sp_X10_reckon E)) [v0] σ sz (fun v s2 z2 => zk_run E (zk_VT E) M_X10_whereOf (C_X10_whereOf E) P PX K n 4 [l0, l1] (zk_psh v []) (s2, z2, k + 0, c + 0)) (fun X s2 z2 => PX X s2 z2))) ∧
  (∀ (n : Nat) (l1 : Option Value) (y0 : Value) (r : List Value) (σ : zk_S) (sz k c : Nat), zk_run E (zk_VT E) M_X10_whereOf (C_X10_whereOf E) P PX K (n + 1) 4 [some y0, l1] r (σ, sz, k, c) = (zk_isr y0 ∧ zk_run E (zk_VT E) M_X10_whereOf (C_X10_whereOf E) P PX K n 5 [some y0, l1] (y0 :: r) (σ, sz, k, c))) ∧
  (∀ (n : Nat) (l0 : Option Value) (y1 : Int32) (r : List Value) (σ : zk_S) (sz k c : Nat), zk_run E (zk_VT E) M_X10_whereOf (C_X10_whereOf E) P PX K (n + 1) 5 [l0, some (.int y1)] r (σ, sz, k, c) = zk_run E (zk_VT E) M_X10_whereOf (C_X10_whereOf E) P PX K n 6 [l0, some (.int y1)] (.int y1 :: r) (σ, sz, k, c)) ∧
  (∀ (n : Nat) (l0 l1 : Option Value) (v0 : Value) (v1 : Value)  (σ : zk_S) (sz k c : Nat), zk_run E (zk_VT E) M_X10_whereOf (C_X10_whereOf E) P PX K (n + 1) 6 [l0, l1] [v0, v1] (σ, sz, k, c) = (k + 1 ≤ 1 ∧ c + 6 ≤ 6 ∧ (zk_rv (zk_VT E) (fun ci => Nat.beq ci 9) (sp_X10_checkFault E)) [v1, v0] σ sz (fun v s2 z2 => zk_run E (zk_VT E) M_X10_whereOf (C_X10_whereOf E) P PX K n 9 [l0, l1] (zk_psh v []) (s2, z2, k + 1, c + 6)) (fun X s2 z2 => PX X s2 z2))) ∧
  (∀ (n : Nat) (l1 : Option Value) (y0 : Value) (r : List Value) (σ : zk_S) (sz k c : Nat), zk_run E (zk_VT E) M_X10_whereOf (C_X10_whereOf E) P PX K (n + 1) 9 [some y0, l1] r (σ, sz, k, c) = (zk_isr y0 ∧ zk_run E (zk_VT E) M_X10_whereOf (C_X10_whereOf E) P PX K n 10 [some y0, l1] (y0 :: r) (σ, sz, k, c))) ∧
  (∀ (n : Nat) (l0 l1 : Option Value) (a : Nat) (r : List Value) (σ : zk_S) (sz k c : Nat), zk_run E (zk_VT E) M_X10_whereOf (C_X10_whereOf E) P PX K (n + 1) 10 [l0, l1] (.ref a :: r) (σ, sz, k, c) = zk_fld (zk_view E σ a) [9] 3 (fun v => zk_run E (zk_VT E) M_X10_whereOf (C_X10_whereOf E) P PX K n 13 [l0, l1] (v :: r) (σ, sz, k, c))) ∧
  (∀ (n : Nat) (l0 l1 : Option Value) (a : Nat) (r : List Value) (σ : zk_S) (sz k c : Nat), zk_run E (zk_VT E) M_X10_whereOf (C_X10_whereOf E) P PX K (n + 1) 13 [l0, l1] (.ref a :: r) (σ, sz, k, c) = zk_fld (zk_view E σ a) [2] 1 (fun v => zk_run E (zk_VT E) M_X10_whereOf (C_X10_whereOf E) P PX K n 16 [l0, l1] (v :: r) (σ, sz, k, c))) ∧
  (∀ (n : Nat) (l0 : Option Value) (y1 : Int32) (r : List Value) (σ : zk_S) (sz k c : Nat), zk_run E (zk_VT E) M_X10_whereOf (C_X10_whereOf E) P PX K (n + 1) 16 [l0, some (.int y1)] r (σ, sz, k, c) = zk_run E (zk_VT E) M_X10_whereOf (C_X10_whereOf E) P PX K n 17 [l0, some (.int y1)] (.int y1 :: r) (σ, sz, k, c)) ∧
  (∀ (n : Nat) (l0 l1 : Option Value) (a : Nat) (i : Int32) (r : List Value) (σ : zk_S) (sz k c : Nat), zk_run E (zk_VT E) M_X10_whereOf (C_X10_whereOf E) P PX K (n + 1) 17 [l0, l1] (.int i :: .ref a :: r) (σ, sz, k, c) = zk_ild (zk_view E σ a) (zk_ar E 0) i (fun x => zk_run E (zk_VT E) M_X10_whereOf (C_X10_whereOf E) P PX K n 18 [l0, l1] (.int x :: r) (σ, sz, k, c))) ∧
  (∀ (n : Nat) (l0 l1 : Option Value) (x : Int32)  (σ : zk_S) (sz k c : Nat), zk_run E (zk_VT E) M_X10_whereOf (C_X10_whereOf E) P PX K (n + 1) 18 [l0, l1] [.int x] (σ, sz, k, c) = (zk_nok (some (.int)) x ∧ P (some (.int x)) σ sz ∧ k ≤ 1 ∧ c ≤ 6)) ∧
  (∀ (n : Nat) (l0 l1 : Option Value) (r : List Value) (w : zk_W zk_S), zk_go E (zk_VT E) M_X10_whereOf (C_X10_whereOf E) P PX K n 0 [l0, l1] r w = zk_run E (zk_VT E) M_X10_whereOf (C_X10_whereOf E) P PX K (n + 1) 0 [l0, l1] r w) := ⟨by intros; rfl, by intros; rfl, by intros; rfl, by intros; rfl, by intros; rfl, by intros; rfl, by intros; rfl, by intros; rfl, by intros; rfl, by intros; rfl, by intros; rfl, by intros; rfl⟩
theorem vc_X10_whereOf (E : zk_E) : zk_VC E (zk_VT E) M_X10_whereOf (C_X10_whereOf E) 2 (sp_X10_whereOf E) := by
  intro av σ sz P PX h
  obtain ⟨J, N, Q, O, U⟩ := σ
  unfold sp_X10_whereOf at h
  split at h
  case h_2 => exact h.elim
  rename_i a0 i
  obtain ⟨rfl, h⟩ := h
  refine ⟨Nat.le_of_ble_eq_true rfl, fun G hG => ?_⟩
  change G 0 [some (.ref (zk_ad E 0)), some (.int i)] [] ((J, N, Q, O, U), sz, 0, 0)
  try dsimp only at h
  obtain ⟨J1, N1, ⟨hmi, hxr, hrk⟩, h1, h2⟩ := h
  (refine hG 900 _ _ _ _ ?_; simp only [r_X10_whereOf, zk_kl_none, zk_kl_int, zk_kl_ref, zk_kl_null, zk_kl_long, zk_kl_rf, zk_isr_ref, zk_isr_null, zk_isr_rf9, zk_c1_int, zk_c1_ref, zk_c1_null, zk_c1_rf, zk_psh_some, zk_psh_none, zk_nok_int, zk_nok_bool0, zk_nok_bool1, zk_nok_b, zk_fok_0, zk_fok_1, zk_fok_2, zk_fok_n, zk_fok_rf, zb_f, zb_p, zb_i, zb_a, zb_s, zk_nth_0, zk_nth_s, zk_fld_o, zk_put_o, zk_rv_eq, zk_ri_eq, zk_is_o, List.mem_cons, List.not_mem_nil, or_false, false_or, or_true, true_or, and_true, true_and, not_false_iff, not_true_eq_false, true_implies, false_implies, imp_self, implies_true, forall_const, zk_lit, zk_uj_ap, zk_un_ap, zk_un_un, zk_uj_uj, Nat.reduceEqDiff, eq_self, zk_bq, Bool.true_or, Bool.false_or, Nat.le_refl, Nat.zero_add, Nat.add_zero, Nat.reduceAdd, Nat.reduceLeDiff, Nat.le_zero_eq, and_self, and_false, false_and, ite_true, ite_false, Nat.zero_le, List.length_cons, List.length_nil, Option.some.injEq, forall_eq', reduceCtorEq, spe_X10_reckon])
  refine ⟨J1, N1, fl0 N1, hmi, hxr, hrk, fun J2 N2 hke hcf => ?_⟩
  have h3 : J2 18 3 = nI (a_faults J1 N1) := hcf.2.2.1
  have hle := faults_210 J1 N1
  cases q : m_isIn i 0 (nI (a_faults J1 N1) - 1) with
  | false =>
    have h := h1 q
    simp only [r_X10_whereOf, zk_kl_none, zk_kl_int, zk_kl_ref, zk_kl_null, zk_kl_long, zk_kl_rf, zk_isr_ref, zk_isr_null, zk_isr_rf9, zk_c1_int, zk_c1_ref, zk_c1_null, zk_c1_rf, zk_psh_some, zk_psh_none, zk_nok_int, zk_nok_bool0, zk_nok_bool1, zk_nok_b, zk_fok_0, zk_fok_1, zk_fok_2, zk_fok_n, zk_fok_rf, zb_f, zb_p, zb_i, zb_a, zb_s, zk_nth_0, zk_nth_s, zk_fld_o, zk_put_o, zk_rv_eq, zk_ri_eq, zk_is_o, List.mem_cons, List.not_mem_nil, or_false, false_or, or_true, true_or, and_true, true_and, not_false_iff, not_true_eq_false, true_implies, false_implies, imp_self, implies_true, forall_const, zk_lit, zk_uj_ap, zk_un_ap, zk_un_un, zk_uj_uj, Nat.reduceEqDiff, eq_self, zk_bq, Bool.true_or, Bool.false_or, Nat.le_refl, Nat.zero_add, Nat.add_zero, Nat.reduceAdd, Nat.reduceLeDiff, Nat.le_zero_eq, and_self, and_false, false_and, ite_true, ite_false, Nat.zero_le, List.length_cons, List.length_nil, Option.some.injEq, forall_eq', reduceCtorEq, spe_X10_checkFault, h3, q, Bool.false_eq_true]
    exact fun z2 hz => h J2 N2 z2 hke (Or.inr hcf) hz
  | true =>
    have h := h2 q J2 N2 hke (Or.inr hcf)
    obtain ⟨k, hk, rfl⟩ := m_isIn_lt (by omega) q
    rw [n_cl (by omega)] at h
    have hin : vp_in (nI k) 210 := n_in (by omega) (by decide)
    have hcl : (nI k).toNatClampNeg = k := n_cl (by omega)
    have hk2 : k < (a_fl J1 N1 10).length := hk
    have hat := (hcf.2.2.2 k hk2).2.1
    rw [← (fqL_at hk2).2.1] at hat
    have hat2 : _ = a_fq J1 N1 k 1 := hat
    simp only [r_X10_whereOf, zk_kl_none, zk_kl_int, zk_kl_ref, zk_kl_null, zk_kl_long, zk_kl_rf, zk_isr_ref, zk_isr_null, zk_isr_rf9, zk_c1_int, zk_c1_ref, zk_c1_null, zk_c1_rf, zk_psh_some, zk_psh_none, zk_nok_int, zk_nok_bool0, zk_nok_bool1, zk_nok_b, zk_fok_0, zk_fok_1, zk_fok_2, zk_fok_n, zk_fok_rf, zb_f, zb_p, zb_i, zb_a, zb_s, zk_nth_0, zk_nth_s, zk_fld_o, zk_put_o, zk_rv_eq, zk_ri_eq, zk_is_o, List.mem_cons, List.not_mem_nil, or_false, false_or, or_true, true_or, and_true, true_and, not_false_iff, not_true_eq_false, true_implies, false_implies, imp_self, implies_true, forall_const, zk_lit, zk_uj_ap, zk_un_ap, zk_un_un, zk_uj_uj, Nat.reduceEqDiff, eq_self, zk_bq, Bool.true_or, Bool.false_or, Nat.le_refl, Nat.zero_add, Nat.add_zero, Nat.reduceAdd, Nat.reduceLeDiff, Nat.le_zero_eq, and_self, and_false, false_and, ite_true, ite_false, Nat.zero_le, List.length_cons, List.length_nil, Option.some.injEq, forall_eq', reduceCtorEq, spe_X10_checkFault, h3, q, Bool.true_eq_false, hin, hcl, hat2]
    exact h
theorem ct_X10_whereOf {l : Launch} (hl : l.stackTraces = false) (E : zk_E) : zk_C l E (zk_VT E) yX10_whereOf cX10_whereOf 2 (some (.int)) rm_X10_whereOf (sp_X10_whereOf E) := by
  refine zk_meth (M := M_X10_whereOf) (C := C_X10_whereOf E) hl (by decide +kernel) rfl (fun _ _ => rfl) (zk_VT_ok E) MO_X10_whereOf TO_X10_whereOf THo_X10_whereOf ?_ (vc_X10_whereOf E)
  exact fun p e s m args below meth c X pc n mc ms sp2 h => by
    have h2 := zk_lka_mem h
    simp only [List.mem_cons, List.not_mem_nil, or_false, Prod.mk.injEq] at h2
    rcases h2 with ⟨rfl, rfl, rfl, rfl, rfl⟩ | ⟨rfl, rfl, rfl, rfl, rfl⟩
    · exact zk_coV (idx := 197) X (ct_X10_reckon hl E) (List.forall_mem_cons.mpr ⟨zk_wi 110 (by decide +kernel) rfl, List.forall_mem_cons.mpr ⟨zk_wi 112 (by decide +kernel) rfl, List.forall_mem_cons.mpr ⟨zk_wp 3 (by decide +kernel) rfl, List.forall_mem_cons.mpr ⟨zk_wi 2 (by decide +kernel) rfl, List.forall_mem_cons.mpr ⟨zk_wi 113 (by decide +kernel) rfl, fun _ h => absurd h List.not_mem_nil⟩⟩⟩⟩⟩) (fun ci h => by
      have h := Nat.eq_of_beq_eq_true h
      subst h
      exact ⟨_, _, rfl⟩) (by decide +kernel) ⟨by decide, by decide, by decide +kernel⟩ ⟨by decide, by decide⟩
    · exact zk_coV (idx := 249) X (ct_X10_checkFault hl E) (List.forall_mem_cons.mpr ⟨zk_wi 323 (by decide +kernel) rfl, List.forall_mem_cons.mpr ⟨zk_wi 325 (by decide +kernel) rfl, List.forall_mem_cons.mpr ⟨zk_wp 5 (by decide +kernel) rfl, List.forall_mem_cons.mpr ⟨zk_wi 2 (by decide +kernel) rfl, List.forall_mem_cons.mpr ⟨zk_wi 326 (by decide +kernel) rfl, fun _ h => absurd h List.not_mem_nil⟩⟩⟩⟩⟩) (fun ci h => by
      have h := Nat.eq_of_beq_eq_true h
      subst h
      exact ⟨_, _, rfl⟩) (by decide +kernel) ⟨by decide, by decide, by decide +kernel⟩ ⟨by decide, by decide⟩
def sp_X10_howMuch (E : zk_E) : zk_Sp zk_S := fun av σ sz P PX => match av with
  | [.ref a, .int i] => a = zk_ad E 0 ∧ ∃ J N, IC E sz σ J N ∧ (m_isIn i 0 (nI (a_faults J N) - 1) = false → ZX J N σ sz "java/lang/IndexOutOfBoundsException" PX) ∧ (m_isIn i 0 (nI (a_faults J N) - 1) = true → ZC J N σ sz (some (.int (a_fq J N i.toNatClampNeg 2))) P)
  | _ => False
theorem spe_X10_howMuch (E : zk_E) (a : Nat) (i : Int32) (σ : zk_S) (sz : Nat) (P : zk_P zk_S) (PX : zk_X zk_S) : sp_X10_howMuch E [.ref a, .int i] σ sz P PX = (a = zk_ad E 0 ∧ ∃ J N, IC E sz σ J N ∧ (m_isIn i 0 (nI (a_faults J N) - 1) = false → ZX J N σ sz "java/lang/IndexOutOfBoundsException" PX) ∧ (m_isIn i 0 (nI (a_faults J N) - 1) = true → ZC J N σ sz (some (.int (a_fq J N i.toNatClampNeg 2))) P)) := propext Iff.rfl
def C_X10_howMuch (E : zk_E) : zk_Cl zk_S := zk_lka [(1, 1, 0, 0, zk_rv (zk_VT E) (fun ci => Nat.beq ci 9) (sp_X10_reckon E)), (6, 2, 1, 6, zk_rv (zk_VT E) (fun ci => Nat.beq ci 9) (sp_X10_checkFault E))]
theorem r_X10_howMuch (E : zk_E) (P : zk_P zk_S) (PX : zk_X zk_S) (K : Nat → zk_L → List Value → zk_W zk_S → Prop) : (∀ (n : Nat) (l1 : Option Value) (y0 : Value) (r : List Value) (σ : zk_S) (sz k c : Nat), zk_run E (zk_VT E) M_X10_howMuch (C_X10_howMuch E) P PX K (n + 1) 0 [some y0, l1] r (σ, sz, k, c) = (zk_isr y0 ∧ zk_run E (zk_VT E) M_X10_howMuch (C_X10_howMuch E) P PX K n 1 [some y0, l1] (y0 :: r) (σ, sz, k, c))) ∧
  (∀ (n : Nat) (l0 l1 : Option Value) (v0 : Value)  (σ : zk_S) (sz k c : Nat), zk_run E (zk_VT E) M_X10_howMuch (C_X10_howMuch E) P PX K (n + 1) 1 [l0, l1] [v0] (σ, sz, k, c) = (k + 0 ≤ 1 ∧ c + 0 ≤ 6 ∧ (zk_rv (zk_VT E) (fun ci => Nat.beq ci 9) (sp_X10_reckon E)) [v0] σ sz (fun v s2 z2 => zk_run E (zk_VT E) M_X10_howMuch (C_X10_howMuch E) P PX K n 4 [l0, l1] (zk_psh v []) (s2, z2, k + 0, c + 0)) (fun X s2 z2 => PX X s2 z2))) ∧
  (∀ (n : Nat) (l1 : Option Value) (y0 : Value) (r : List Value) (σ : zk_S) (sz k c : Nat), zk_run E (zk_VT E) M_X10_howMuch (C_X10_howMuch E) P PX K (n + 1) 4 [some y0, l1] r (σ, sz, k, c) = (zk_isr y0 ∧ zk_run E (zk_VT E) M_X10_howMuch (C_X10_howMuch E) P PX K n 5 [some y0, l1] (y0 :: r) (σ, sz, k, c))) ∧
  (∀ (n : Nat) (l0 : Option Value) (y1 : Int32) (r : List Value) (σ : zk_S) (sz k c : Nat), zk_run E (zk_VT E) M_X10_howMuch (C_X10_howMuch E) P PX K (n + 1) 5 [l0, some (.int y1)] r (σ, sz, k, c) = zk_run E (zk_VT E) M_X10_howMuch (C_X10_howMuch E) P PX K n 6 [l0, some (.int y1)] (.int y1 :: r) (σ, sz, k, c)) ∧
  (∀ (n : Nat) (l0 l1 : Option Value) (v0 : Value) (v1 : Value)  (σ : zk_S) (sz k c : Nat), zk_run E (zk_VT E) M_X10_howMuch (C_X10_howMuch E) P PX K (n + 1) 6 [l0, l1] [v0, v1] (σ, sz, k, c) = (k + 1 ≤ 1 ∧ c + 6 ≤ 6 ∧ (zk_rv (zk_VT E) (fun ci => Nat.beq ci 9) (sp_X10_checkFault E)) [v1, v0] σ sz (fun v s2 z2 => zk_run E (zk_VT E) M_X10_howMuch (C_X10_howMuch E) P PX K n 9 [l0, l1] (zk_psh v []) (s2, z2, k + 1, c + 6)) (fun X s2 z2 => PX X s2 z2))) ∧
  (∀ (n : Nat) (l1 : Option Value) (y0 : Value) (r : List Value) (σ : zk_S) (sz k c : Nat), zk_run E (zk_VT E) M_X10_howMuch (C_X10_howMuch E) P PX K (n + 1) 9 [some y0, l1] r (σ, sz, k, c) = (zk_isr y0 ∧ zk_run E (zk_VT E) M_X10_howMuch (C_X10_howMuch E) P PX K n 10 [some y0, l1] (y0 :: r) (σ, sz, k, c))) ∧
  (∀ (n : Nat) (l0 l1 : Option Value) (a : Nat) (r : List Value) (σ : zk_S) (sz k c : Nat), zk_run E (zk_VT E) M_X10_howMuch (C_X10_howMuch E) P PX K (n + 1) 10 [l0, l1] (.ref a :: r) (σ, sz, k, c) = zk_fld (zk_view E σ a) [9] 3 (fun v => zk_run E (zk_VT E) M_X10_howMuch (C_X10_howMuch E) P PX K n 13 [l0, l1] (v :: r) (σ, sz, k, c))) ∧
  (∀ (n : Nat) (l0 l1 : Option Value) (a : Nat) (r : List Value) (σ : zk_S) (sz k c : Nat), zk_run E (zk_VT E) M_X10_howMuch (C_X10_howMuch E) P PX K (n + 1) 13 [l0, l1] (.ref a :: r) (σ, sz, k, c) = zk_fld (zk_view E σ a) [2] 2 (fun v => zk_run E (zk_VT E) M_X10_howMuch (C_X10_howMuch E) P PX K n 16 [l0, l1] (v :: r) (σ, sz, k, c))) ∧
  (∀ (n : Nat) (l0 : Option Value) (y1 : Int32) (r : List Value) (σ : zk_S) (sz k c : Nat), zk_run E (zk_VT E) M_X10_howMuch (C_X10_howMuch E) P PX K (n + 1) 16 [l0, some (.int y1)] r (σ, sz, k, c) = zk_run E (zk_VT E) M_X10_howMuch (C_X10_howMuch E) P PX K n 17 [l0, some (.int y1)] (.int y1 :: r) (σ, sz, k, c)) ∧
  (∀ (n : Nat) (l0 l1 : Option Value) (a : Nat) (i : Int32) (r : List Value) (σ : zk_S) (sz k c : Nat), zk_run E (zk_VT E) M_X10_howMuch (C_X10_howMuch E) P PX K (n + 1) 17 [l0, l1] (.int i :: .ref a :: r) (σ, sz, k, c) = zk_ild (zk_view E σ a) (zk_ar E 0) i (fun x => zk_run E (zk_VT E) M_X10_howMuch (C_X10_howMuch E) P PX K n 18 [l0, l1] (.int x :: r) (σ, sz, k, c))) ∧
  (∀ (n : Nat) (l0 l1 : Option Value) (x : Int32)  (σ : zk_S) (sz k c : Nat), zk_run E (zk_VT E) M_X10_howMuch (C_X10_howMuch E) P PX K (n + 1) 18 [l0, l1] [.int x] (σ, sz, k, c) = (zk_nok (some (.int)) x ∧ P (some (.int x)) σ sz ∧ k ≤ 1 ∧ c ≤ 6)) ∧
  (∀ (n : Nat) (l0 l1 : Option Value) (r : List Value) (w : zk_W zk_S), zk_go E (zk_VT E) M_X10_howMuch (C_X10_howMuch E) P PX K n 0 [l0, l1] r w = zk_run E (zk_VT E) M_X10_howMuch (C_X10_howMuch E) P PX K (n + 1) 0 [l0, l1] r w) := ⟨by intros; rfl, by intros; rfl, by intros; rfl, by intros; rfl, by intros; rfl, by intros; rfl, by intros; rfl, by intros; rfl, by intros; rfl, by intros; rfl, by intros; rfl, by intros; rfl⟩
theorem vc_X10_howMuch (E : zk_E) : zk_VC E (zk_VT E) M_X10_howMuch (C_X10_howMuch E) 2 (sp_X10_howMuch E) := by
  intro av σ sz P PX h
  obtain ⟨J, N, Q, O, U⟩ := σ
  unfold sp_X10_howMuch at h
  split at h
  case h_2 => exact h.elim
  rename_i a0 i
  obtain ⟨rfl, h⟩ := h
  refine ⟨Nat.le_of_ble_eq_true rfl, fun G hG => ?_⟩
  change G 0 [some (.ref (zk_ad E 0)), some (.int i)] [] ((J, N, Q, O, U), sz, 0, 0)
  try dsimp only at h
  obtain ⟨J1, N1, ⟨hmi, hxr, hrk⟩, h1, h2⟩ := h
  (refine hG 900 _ _ _ _ ?_; simp only [r_X10_howMuch, zk_kl_none, zk_kl_int, zk_kl_ref, zk_kl_null, zk_kl_long, zk_kl_rf, zk_isr_ref, zk_isr_null, zk_isr_rf9, zk_c1_int, zk_c1_ref, zk_c1_null, zk_c1_rf, zk_psh_some, zk_psh_none, zk_nok_int, zk_nok_bool0, zk_nok_bool1, zk_nok_b, zk_fok_0, zk_fok_1, zk_fok_2, zk_fok_n, zk_fok_rf, zb_f, zb_p, zb_i, zb_a, zb_s, zk_nth_0, zk_nth_s, zk_fld_o, zk_put_o, zk_rv_eq, zk_ri_eq, zk_is_o, List.mem_cons, List.not_mem_nil, or_false, false_or, or_true, true_or, and_true, true_and, not_false_iff, not_true_eq_false, true_implies, false_implies, imp_self, implies_true, forall_const, zk_lit, zk_uj_ap, zk_un_ap, zk_un_un, zk_uj_uj, Nat.reduceEqDiff, eq_self, zk_bq, Bool.true_or, Bool.false_or, Nat.le_refl, Nat.zero_add, Nat.add_zero, Nat.reduceAdd, Nat.reduceLeDiff, Nat.le_zero_eq, and_self, and_false, false_and, ite_true, ite_false, Nat.zero_le, List.length_cons, List.length_nil, Option.some.injEq, forall_eq', reduceCtorEq, spe_X10_reckon])
  refine ⟨J1, N1, fl0 N1, hmi, hxr, hrk, fun J2 N2 hke hcf => ?_⟩
  have h3 : J2 18 3 = nI (a_faults J1 N1) := hcf.2.2.1
  have hle := faults_210 J1 N1
  cases q : m_isIn i 0 (nI (a_faults J1 N1) - 1) with
  | false =>
    have h := h1 q
    simp only [r_X10_howMuch, zk_kl_none, zk_kl_int, zk_kl_ref, zk_kl_null, zk_kl_long, zk_kl_rf, zk_isr_ref, zk_isr_null, zk_isr_rf9, zk_c1_int, zk_c1_ref, zk_c1_null, zk_c1_rf, zk_psh_some, zk_psh_none, zk_nok_int, zk_nok_bool0, zk_nok_bool1, zk_nok_b, zk_fok_0, zk_fok_1, zk_fok_2, zk_fok_n, zk_fok_rf, zb_f, zb_p, zb_i, zb_a, zb_s, zk_nth_0, zk_nth_s, zk_fld_o, zk_put_o, zk_rv_eq, zk_ri_eq, zk_is_o, List.mem_cons, List.not_mem_nil, or_false, false_or, or_true, true_or, and_true, true_and, not_false_iff, not_true_eq_false, true_implies, false_implies, imp_self, implies_true, forall_const, zk_lit, zk_uj_ap, zk_un_ap, zk_un_un, zk_uj_uj, Nat.reduceEqDiff, eq_self, zk_bq, Bool.true_or, Bool.false_or, Nat.le_refl, Nat.zero_add, Nat.add_zero, Nat.reduceAdd, Nat.reduceLeDiff, Nat.le_zero_eq, and_self, and_false, false_and, ite_true, ite_false, Nat.zero_le, List.length_cons, List.length_nil, Option.some.injEq, forall_eq', reduceCtorEq, spe_X10_checkFault, h3, q, Bool.false_eq_true]
    exact fun z2 hz => h J2 N2 z2 hke (Or.inr hcf) hz
  | true =>
    have h := h2 q J2 N2 hke (Or.inr hcf)
    obtain ⟨k, hk, rfl⟩ := m_isIn_lt (by omega) q
    rw [n_cl (by omega)] at h
    have hin : vp_in (nI k) 210 := n_in (by omega) (by decide)
    have hcl : (nI k).toNatClampNeg = k := n_cl (by omega)
    have hk2 : k < (a_fl J1 N1 10).length := hk
    have hat := (hcf.2.2.2 k hk2).2.2
    rw [← (fqL_at hk2).2.2] at hat
    have hat2 : _ = a_fq J1 N1 k 2 := hat
    simp only [r_X10_howMuch, zk_kl_none, zk_kl_int, zk_kl_ref, zk_kl_null, zk_kl_long, zk_kl_rf, zk_isr_ref, zk_isr_null, zk_isr_rf9, zk_c1_int, zk_c1_ref, zk_c1_null, zk_c1_rf, zk_psh_some, zk_psh_none, zk_nok_int, zk_nok_bool0, zk_nok_bool1, zk_nok_b, zk_fok_0, zk_fok_1, zk_fok_2, zk_fok_n, zk_fok_rf, zb_f, zb_p, zb_i, zb_a, zb_s, zk_nth_0, zk_nth_s, zk_fld_o, zk_put_o, zk_rv_eq, zk_ri_eq, zk_is_o, List.mem_cons, List.not_mem_nil, or_false, false_or, or_true, true_or, and_true, true_and, not_false_iff, not_true_eq_false, true_implies, false_implies, imp_self, implies_true, forall_const, zk_lit, zk_uj_ap, zk_un_ap, zk_un_un, zk_uj_uj, Nat.reduceEqDiff, eq_self, zk_bq, Bool.true_or, Bool.false_or, Nat.le_refl, Nat.zero_add, Nat.add_zero, Nat.reduceAdd, Nat.reduceLeDiff, Nat.le_zero_eq, and_self, and_false, false_and, ite_true, ite_false, Nat.zero_le, List.length_cons, List.length_nil, Option.some.injEq, forall_eq', reduceCtorEq, spe_X10_checkFault, h3, q, Bool.true_eq_false, hin, hcl, hat2]
    exact h
theorem ct_X10_howMuch {l : Launch} (hl : l.stackTraces = false) (E : zk_E) : zk_C l E (zk_VT E) yX10_howMuch cX10_howMuch 2 (some (.int)) rm_X10_howMuch (sp_X10_howMuch E) := by
  refine zk_meth (M := M_X10_howMuch) (C := C_X10_howMuch E) hl (by decide +kernel) rfl (fun _ _ => rfl) (zk_VT_ok E) MO_X10_howMuch TO_X10_howMuch THo_X10_howMuch ?_ (vc_X10_howMuch E)
  exact fun p e s m args below meth c X pc n mc ms sp2 h => by
    have h2 := zk_lka_mem h
    simp only [List.mem_cons, List.not_mem_nil, or_false, Prod.mk.injEq] at h2
    rcases h2 with ⟨rfl, rfl, rfl, rfl, rfl⟩ | ⟨rfl, rfl, rfl, rfl, rfl⟩
    · exact zk_coV (idx := 197) X (ct_X10_reckon hl E) (List.forall_mem_cons.mpr ⟨zk_wi 110 (by decide +kernel) rfl, List.forall_mem_cons.mpr ⟨zk_wi 112 (by decide +kernel) rfl, List.forall_mem_cons.mpr ⟨zk_wp 3 (by decide +kernel) rfl, List.forall_mem_cons.mpr ⟨zk_wi 2 (by decide +kernel) rfl, List.forall_mem_cons.mpr ⟨zk_wi 113 (by decide +kernel) rfl, fun _ h => absurd h List.not_mem_nil⟩⟩⟩⟩⟩) (fun ci h => by
      have h := Nat.eq_of_beq_eq_true h
      subst h
      exact ⟨_, _, rfl⟩) (by decide +kernel) ⟨by decide, by decide, by decide +kernel⟩ ⟨by decide, by decide⟩
    · exact zk_coV (idx := 249) X (ct_X10_checkFault hl E) (List.forall_mem_cons.mpr ⟨zk_wi 323 (by decide +kernel) rfl, List.forall_mem_cons.mpr ⟨zk_wi 325 (by decide +kernel) rfl, List.forall_mem_cons.mpr ⟨zk_wp 5 (by decide +kernel) rfl, List.forall_mem_cons.mpr ⟨zk_wi 2 (by decide +kernel) rfl, List.forall_mem_cons.mpr ⟨zk_wi 326 (by decide +kernel) rfl, fun _ h => absurd h List.not_mem_nil⟩⟩⟩⟩⟩) (fun ci h => by
      have h := Nat.eq_of_beq_eq_true h
      subst h
      exact ⟨_, _, rfl⟩) (by decide +kernel) ⟨by decide, by decide, by decide +kernel⟩ ⟨by decide, by decide⟩
def sp_X10_broken (E : zk_E) : zk_Sp zk_S := fun av σ sz P PX => match av with
  | [.ref a, .int r] => a = zk_ad E 0 ∧ ∃ J N, IC E sz σ J N ∧ (m_isIn r 0 9 = false → ZX J N σ sz "java/lang/IndexOutOfBoundsException" PX) ∧ (m_isIn r 0 9 = true → ZC J N σ sz (some (.int (nI (a_brk J N r)))) P)
  | _ => False
theorem spe_X10_broken (E : zk_E) (a : Nat) (r : Int32) (σ : zk_S) (sz : Nat) (P : zk_P zk_S) (PX : zk_X zk_S) : sp_X10_broken E [.ref a, .int r] σ sz P PX = (a = zk_ad E 0 ∧ ∃ J N, IC E sz σ J N ∧ (m_isIn r 0 9 = false → ZX J N σ sz "java/lang/IndexOutOfBoundsException" PX) ∧ (m_isIn r 0 9 = true → ZC J N σ sz (some (.int (nI (a_brk J N r)))) P)) := propext Iff.rfl
def C_X10_broken (E : zk_E) : zk_Cl zk_S := zk_lka [(12, 3, 0, 0, sp_X10_isWithin E), (29, 1, 0, 0, zk_rv (zk_VT E) (fun ci => Nat.beq ci 9) (sp_X10_reckon E)), (37, 2, 0, 0, zk_rv (zk_VT E) (fun ci => Nat.beq ci 2) (sp_X3_countOf E))]
theorem r_X10_broken (E : zk_E) (P : zk_P zk_S) (PX : zk_X zk_S) (K : Nat → zk_L → List Value → zk_W zk_S → Prop) : (∀ (n : Nat) (l0 : Option Value) (y1 : Int32) (r : List Value) (σ : zk_S) (sz k c : Nat), zk_run E (zk_VT E) M_X10_broken (C_X10_broken E) P PX K (n + 1) 0 [l0, some (.int y1)] r (σ, sz, k, c) = zk_run E (zk_VT E) M_X10_broken (C_X10_broken E) P PX K n 1 [l0, some (.int y1)] (.int y1 :: r) (σ, sz, k, c)) ∧
  (∀ (n : Nat) (l0 l1 : Option Value)  (r : List Value) (σ : zk_S) (sz k c : Nat), zk_run E (zk_VT E) M_X10_broken (C_X10_broken E) P PX K (n + 1) 1 [l0, l1] r (σ, sz, k, c) = zk_run E (zk_VT E) M_X10_broken (C_X10_broken E) P PX K n 2 [l0, l1] (.int (0) :: r) (σ, sz, k, c)) ∧
  (∀ (n : Nat) (l1 : Option Value) (y0 : Value) (r : List Value) (σ : zk_S) (sz k c : Nat), zk_run E (zk_VT E) M_X10_broken (C_X10_broken E) P PX K (n + 1) 2 [some y0, l1] r (σ, sz, k, c) = (zk_isr y0 ∧ zk_run E (zk_VT E) M_X10_broken (C_X10_broken E) P PX K n 3 [some y0, l1] (y0 :: r) (σ, sz, k, c))) ∧
  (∀ (n : Nat) (l0 l1 : Option Value) (a : Nat) (r : List Value) (σ : zk_S) (sz k c : Nat), zk_run E (zk_VT E) M_X10_broken (C_X10_broken E) P PX K (n + 1) 3 [l0, l1] (.ref a :: r) (σ, sz, k, c) = zk_fld (zk_view E σ a) [9] 0 (fun v => zk_run E (zk_VT E) M_X10_broken (C_X10_broken E) P PX K n 6 [l0, l1] (v :: r) (σ, sz, k, c))) ∧
  (∀ (n : Nat) (l0 l1 : Option Value) (a : Nat) (r : List Value) (σ : zk_S) (sz k c : Nat), zk_run E (zk_VT E) M_X10_broken (C_X10_broken E) P PX K (n + 1) 6 [l0, l1] (.ref a :: r) (σ, sz, k, c) = zk_fld (zk_view E σ a) [4] 4 (fun v => zk_run E (zk_VT E) M_X10_broken (C_X10_broken E) P PX K n 9 [l0, l1] (v :: r) (σ, sz, k, c))) ∧
  (∀ (n : Nat) (l0 l1 : Option Value) (a : Nat) (r : List Value) (σ : zk_S) (sz k c : Nat), zk_run E (zk_VT E) M_X10_broken (C_X10_broken E) P PX K (n + 1) 9 [l0, l1] (.ref a :: r) (σ, sz, k, c) = zk_lenq E (zk_view E σ a) (fun x => zk_run E (zk_VT E) M_X10_broken (C_X10_broken E) P PX K n 10 [l0, l1] (.int x :: r) (σ, sz, k, c))) ∧
  (∀ (n : Nat) (l0 l1 : Option Value)  (r : List Value) (σ : zk_S) (sz k c : Nat), zk_run E (zk_VT E) M_X10_broken (C_X10_broken E) P PX K (n + 1) 10 [l0, l1] r (σ, sz, k, c) = zk_run E (zk_VT E) M_X10_broken (C_X10_broken E) P PX K n 11 [l0, l1] (.int (1) :: r) (σ, sz, k, c)) ∧
  (∀ (n : Nat) (l0 l1 : Option Value) (x y : Int32) (r : List Value) (σ : zk_S) (sz k c : Nat), zk_run E (zk_VT E) M_X10_broken (C_X10_broken E) P PX K (n + 1) 11 [l0, l1] (.int y :: .int x :: r) (σ, sz, k, c) = zk_run E (zk_VT E) M_X10_broken (C_X10_broken E) P PX K n 12 [l0, l1] (.int (x - y) :: r) (σ, sz, k, c)) ∧
  (∀ (n : Nat) (l0 l1 : Option Value) (v0 : Value) (v1 : Value) (v2 : Value)  (σ : zk_S) (sz k c : Nat), zk_run E (zk_VT E) M_X10_broken (C_X10_broken E) P PX K (n + 1) 12 [l0, l1] [v0, v1, v2] (σ, sz, k, c) = (k + 0 ≤ 1 ∧ c + 0 ≤ 6 ∧ (sp_X10_isWithin E) [v2, v1, v0] σ sz (fun v s2 z2 => zk_run E (zk_VT E) M_X10_broken (C_X10_broken E) P PX K n 15 [l0, l1] (zk_psh v []) (s2, z2, k + 0, c + 0)) (fun X s2 z2 => PX X s2 z2))) ∧
  (∀ (n : Nat) (l0 l1 : Option Value) (x : Int32) (r : List Value) (σ : zk_S) (sz k c : Nat), zk_run E (zk_VT E) M_X10_broken (C_X10_broken E) P PX K (n + 1) 15 [l0, l1] (.int x :: r) (σ, sz, k, c) = ((¬ x = 0 → zk_run E (zk_VT E) M_X10_broken (C_X10_broken E) P PX K n 28 [l0, l1] r (σ, sz, k, c)) ∧ (¬ (¬ x = 0) → zk_run E (zk_VT E) M_X10_broken (C_X10_broken E) P PX K n 18 [l0, l1] r (σ, sz, k, c)))) ∧
  (∀ (n : Nat) (l0 l1 : Option Value)   (σ : zk_S) (sz k c : Nat), zk_run E (zk_VT E) M_X10_broken (C_X10_broken E) P PX K (n + 1) 18 [l0, l1] [] (σ, sz, k, c) = (([] : List Value) = [] ∧ (∀ z2, sz ≤ z2 → PX "java/lang/IndexOutOfBoundsException" σ z2) ∧ k + 1 ≤ 1 ∧ c + 6 ≤ 6)) ∧
  (∀ (n : Nat) (l1 : Option Value) (y0 : Value) (r : List Value) (σ : zk_S) (sz k c : Nat), zk_run E (zk_VT E) M_X10_broken (C_X10_broken E) P PX K (n + 1) 28 [some y0, l1] r (σ, sz, k, c) = (zk_isr y0 ∧ zk_run E (zk_VT E) M_X10_broken (C_X10_broken E) P PX K n 29 [some y0, l1] (y0 :: r) (σ, sz, k, c))) ∧
  (∀ (n : Nat) (l0 l1 : Option Value) (v0 : Value)  (σ : zk_S) (sz k c : Nat), zk_run E (zk_VT E) M_X10_broken (C_X10_broken E) P PX K (n + 1) 29 [l0, l1] [v0] (σ, sz, k, c) = (k + 0 ≤ 1 ∧ c + 0 ≤ 6 ∧ (zk_rv (zk_VT E) (fun ci => Nat.beq ci 9) (sp_X10_reckon E)) [v0] σ sz (fun v s2 z2 => zk_run E (zk_VT E) M_X10_broken (C_X10_broken E) P PX K n 32 [l0, l1] (zk_psh v []) (s2, z2, k + 0, c + 0)) (fun X s2 z2 => PX X s2 z2))) ∧
  (∀ (n : Nat) (l1 : Option Value) (y0 : Value) (r : List Value) (σ : zk_S) (sz k c : Nat), zk_run E (zk_VT E) M_X10_broken (C_X10_broken E) P PX K (n + 1) 32 [some y0, l1] r (σ, sz, k, c) = (zk_isr y0 ∧ zk_run E (zk_VT E) M_X10_broken (C_X10_broken E) P PX K n 33 [some y0, l1] (y0 :: r) (σ, sz, k, c))) ∧
  (∀ (n : Nat) (l0 l1 : Option Value) (a : Nat) (r : List Value) (σ : zk_S) (sz k c : Nat), zk_run E (zk_VT E) M_X10_broken (C_X10_broken E) P PX K (n + 1) 33 [l0, l1] (.ref a :: r) (σ, sz, k, c) = zk_fld (zk_view E σ a) [9] 3 (fun v => zk_run E (zk_VT E) M_X10_broken (C_X10_broken E) P PX K n 36 [l0, l1] (v :: r) (σ, sz, k, c))) ∧
  (∀ (n : Nat) (l0 : Option Value) (y1 : Int32) (r : List Value) (σ : zk_S) (sz k c : Nat), zk_run E (zk_VT E) M_X10_broken (C_X10_broken E) P PX K (n + 1) 36 [l0, some (.int y1)] r (σ, sz, k, c) = zk_run E (zk_VT E) M_X10_broken (C_X10_broken E) P PX K n 37 [l0, some (.int y1)] (.int y1 :: r) (σ, sz, k, c)) ∧
  (∀ (n : Nat) (l0 l1 : Option Value) (v0 : Value) (v1 : Value)  (σ : zk_S) (sz k c : Nat), zk_run E (zk_VT E) M_X10_broken (C_X10_broken E) P PX K (n + 1) 37 [l0, l1] [v0, v1] (σ, sz, k, c) = (k + 0 ≤ 1 ∧ c + 0 ≤ 6 ∧ (zk_rv (zk_VT E) (fun ci => Nat.beq ci 2) (sp_X3_countOf E)) [v1, v0] σ sz (fun v s2 z2 => zk_run E (zk_VT E) M_X10_broken (C_X10_broken E) P PX K n 40 [l0, l1] (zk_psh v []) (s2, z2, k + 0, c + 0)) (fun X s2 z2 => PX X s2 z2))) ∧
  (∀ (n : Nat) (l0 l1 : Option Value) (x : Int32)  (σ : zk_S) (sz k c : Nat), zk_run E (zk_VT E) M_X10_broken (C_X10_broken E) P PX K (n + 1) 40 [l0, l1] [.int x] (σ, sz, k, c) = (zk_nok (some (.int)) x ∧ P (some (.int x)) σ sz ∧ k ≤ 1 ∧ c ≤ 6)) ∧
  (∀ (n : Nat) (l0 l1 : Option Value) (r : List Value) (w : zk_W zk_S), zk_go E (zk_VT E) M_X10_broken (C_X10_broken E) P PX K n 0 [l0, l1] r w = zk_run E (zk_VT E) M_X10_broken (C_X10_broken E) P PX K (n + 1) 0 [l0, l1] r w) := ⟨by intros; rfl, by intros; rfl, by intros; rfl, by intros; rfl, by intros; rfl, by intros; rfl, by intros; rfl, by intros; rfl, by intros; rfl, by intros; rfl, by intros; rfl, by intros; rfl, by intros; rfl, by intros; rfl, by intros; rfl, by intros; rfl, by intros; rfl, by intros; rfl, by intros; rfl⟩
theorem vc_X10_broken (E : zk_E) : zk_VC E (zk_VT E) M_X10_broken (C_X10_broken E) 2 (sp_X10_broken E) := by
  intro av σ sz P PX h
  obtain ⟨J, N, Q, O, U⟩ := σ
  unfold sp_X10_broken at h
  split at h
  case h_2 => exact h.elim
  rename_i a0 r
  obtain ⟨rfl, h⟩ := h
  refine ⟨Nat.le_of_ble_eq_true rfl, fun G hG => ?_⟩
  change G 0 [some (.ref (zk_ad E 0)), some (.int r)] [] ((J, N, Q, O, U), sz, 0, 0)
  try dsimp only at h
  obtain ⟨J1, N1, ⟨hmi, hxr, hrk⟩, h1, h2⟩ := h
  have c10 : Int32.ofNat 10 - 1 = 9 := by decide
  cases q : m_isIn r 0 9 with
  | false =>
    have h := h1 q
    (refine hG 900 _ _ _ _ ?_; simp only [r_X10_broken, zk_kl_none, zk_kl_int, zk_kl_ref, zk_kl_null, zk_kl_long, zk_kl_rf, zk_isr_ref, zk_isr_null, zk_isr_rf9, zk_c1_int, zk_c1_ref, zk_c1_null, zk_c1_rf, zk_psh_some, zk_psh_none, zk_nok_int, zk_nok_bool0, zk_nok_bool1, zk_nok_b, zk_fok_0, zk_fok_1, zk_fok_2, zk_fok_n, zk_fok_rf, zb_f, zb_p, zb_i, zb_a, zb_s, zk_nth_0, zk_nth_s, zk_fld_o, zk_put_o, zk_rv_eq, zk_ri_eq, zk_is_o, List.mem_cons, List.not_mem_nil, or_false, false_or, or_true, true_or, and_true, true_and, not_false_iff, not_true_eq_false, true_implies, false_implies, imp_self, implies_true, forall_const, zk_lit, zk_uj_ap, zk_un_ap, zk_un_un, zk_uj_uj, Nat.reduceEqDiff, eq_self, zk_bq, Bool.true_or, Bool.false_or, Nat.le_refl, Nat.zero_add, Nat.add_zero, Nat.reduceAdd, Nat.reduceLeDiff, Nat.le_zero_eq, and_self, and_false, false_and, ite_true, ite_false, Nat.zero_le, List.length_cons, List.length_nil, Option.some.injEq, forall_eq', reduceCtorEq, c10, spe_X10_isWithin, q, zk_b0])
    exact fun z2 hz => h J N z2 (KE.refl J N) hrk hz
  | true =>
    have h := h2 q
    (refine hG 900 _ _ _ _ ?_; simp only [r_X10_broken, zk_kl_none, zk_kl_int, zk_kl_ref, zk_kl_null, zk_kl_long, zk_kl_rf, zk_isr_ref, zk_isr_null, zk_isr_rf9, zk_c1_int, zk_c1_ref, zk_c1_null, zk_c1_rf, zk_psh_some, zk_psh_none, zk_nok_int, zk_nok_bool0, zk_nok_bool1, zk_nok_b, zk_fok_0, zk_fok_1, zk_fok_2, zk_fok_n, zk_fok_rf, zb_f, zb_p, zb_i, zb_a, zb_s, zk_nth_0, zk_nth_s, zk_fld_o, zk_put_o, zk_rv_eq, zk_ri_eq, zk_is_o, List.mem_cons, List.not_mem_nil, or_false, false_or, or_true, true_or, and_true, true_and, not_false_iff, not_true_eq_false, true_implies, false_implies, imp_self, implies_true, forall_const, zk_lit, zk_uj_ap, zk_un_ap, zk_un_un, zk_uj_uj, Nat.reduceEqDiff, eq_self, zk_bq, Bool.true_or, Bool.false_or, Nat.le_refl, Nat.zero_add, Nat.add_zero, Nat.reduceAdd, Nat.reduceLeDiff, Nat.le_zero_eq, and_self, and_false, false_and, ite_true, ite_false, Nat.zero_le, List.length_cons, List.length_nil, Option.some.injEq, forall_eq', reduceCtorEq, c10, spe_X10_isWithin, q, zk_b0, Bool.true_eq_false, spe_X10_reckon])
    refine ⟨J1, N1, fl0 N1, hmi, hxr, hrk, fun J2 N2 hke hcf => ?_⟩
    simp only [r_X10_broken, zk_kl_none, zk_kl_int, zk_kl_ref, zk_kl_null, zk_kl_long, zk_kl_rf, zk_isr_ref, zk_isr_null, zk_isr_rf9, zk_c1_int, zk_c1_ref, zk_c1_null, zk_c1_rf, zk_psh_some, zk_psh_none, zk_nok_int, zk_nok_bool0, zk_nok_bool1, zk_nok_b, zk_fok_0, zk_fok_1, zk_fok_2, zk_fok_n, zk_fok_rf, zb_f, zb_p, zb_i, zb_a, zb_s, zk_nth_0, zk_nth_s, zk_fld_o, zk_put_o, zk_rv_eq, zk_ri_eq, zk_is_o, List.mem_cons, List.not_mem_nil, or_false, false_or, or_true, true_or, and_true, true_and, not_false_iff, not_true_eq_false, true_implies, false_implies, imp_self, implies_true, forall_const, zk_lit, zk_uj_ap, zk_un_ap, zk_un_un, zk_uj_uj, Nat.reduceEqDiff, eq_self, zk_bq, Bool.true_or, Bool.false_or, Nat.le_refl, Nat.zero_add, Nat.add_zero, Nat.reduceAdd, Nat.reduceLeDiff, Nat.le_zero_eq, and_self, and_false, false_and, ite_true, ite_false, Nat.zero_le, List.length_cons, List.length_nil, Option.some.injEq, forall_eq', reduceCtorEq, spe_X3_countOf]
    refine ⟨a_fl J1 N1 10, faults_210 J1 N1, hcf.2.2, ?_⟩
    have h := h J2 N2 hke (Or.inr hcf)
    exact h
theorem ct_X10_broken {l : Launch} (hl : l.stackTraces = false) (E : zk_E) : zk_C l E (zk_VT E) yX10_broken cX10_broken 2 (some (.int)) rm_X10_broken (sp_X10_broken E) := by
  refine zk_meth (M := M_X10_broken) (C := C_X10_broken E) hl (by decide +kernel) rfl (fun _ _ => rfl) (zk_VT_ok E) MO_X10_broken TO_X10_broken THo_X10_broken ?_ (vc_X10_broken E)
  exact fun p e s m args below meth c X pc n mc ms sp2 h => by
    have h2 := zk_lka_mem h
    simp only [List.mem_cons, List.not_mem_nil, or_false, Prod.mk.injEq] at h2
    rcases h2 with ⟨rfl, rfl, rfl, rfl, rfl⟩ | ⟨rfl, rfl, rfl, rfl, rfl⟩ | ⟨rfl, rfl, rfl, rfl, rfl⟩
    · exact zk_coS (idx := 41) X (ct_X10_isWithin hl E) (List.forall_mem_cons.mpr ⟨zk_wi 28 (by decide +kernel) rfl, List.forall_mem_cons.mpr ⟨zk_wi 29 (by decide +kernel) rfl, List.forall_mem_cons.mpr ⟨zk_wi 2 (by decide +kernel) rfl, List.forall_mem_cons.mpr ⟨zk_wi 30 (by decide +kernel) rfl, fun _ h => absurd h List.not_mem_nil⟩⟩⟩⟩) (by decide +kernel) ⟨by decide, by decide, by decide +kernel⟩ ⟨by decide, by decide⟩
    · exact zk_coV (idx := 197) X (ct_X10_reckon hl E) (List.forall_mem_cons.mpr ⟨zk_wi 110 (by decide +kernel) rfl, List.forall_mem_cons.mpr ⟨zk_wi 112 (by decide +kernel) rfl, List.forall_mem_cons.mpr ⟨zk_wp 3 (by decide +kernel) rfl, List.forall_mem_cons.mpr ⟨zk_wi 2 (by decide +kernel) rfl, List.forall_mem_cons.mpr ⟨zk_wi 113 (by decide +kernel) rfl, fun _ h => absurd h List.not_mem_nil⟩⟩⟩⟩⟩) (fun ci h => by
      have h := Nat.eq_of_beq_eq_true h
      subst h
      exact ⟨_, _, rfl⟩) (by decide +kernel) ⟨by decide, by decide, by decide +kernel⟩ ⟨by decide, by decide⟩
    · exact zk_coV (idx := 261) X (ct_X3_countOf hl E) (List.forall_mem_cons.mpr ⟨zk_wi 341 (by decide +kernel) rfl, List.forall_mem_cons.mpr ⟨zk_wi 342 (by decide +kernel) rfl, List.forall_mem_cons.mpr ⟨zk_wi 343 (by decide +kernel) rfl, List.forall_mem_cons.mpr ⟨zk_wi 6 (by decide +kernel) rfl, List.forall_mem_cons.mpr ⟨zk_wi 344 (by decide +kernel) rfl, fun _ h => absurd h List.not_mem_nil⟩⟩⟩⟩⟩) (fun ci h => by
      have h := Nat.eq_of_beq_eq_true h
      subst h
      exact ⟨_, _, rfl⟩) (by decide +kernel) ⟨by decide, by decide, by decide +kernel⟩ ⟨by decide, by decide⟩


