/-! the reference: farWay, leaving, middleWay, depth, way -/
theorem RD.lt {J : Nat → Nat → Int32} {N : Nat → Nat → Int32} {j : Nat} (hmi : MI J N) (hj : MR J N j) : (nI j).toNatClampNeg = j := n_cl (by have := hj.lt hmi; omega)
def sp_X11_farWay (E : zk_E) : zk_Sp zk_S := fun av σ sz P PX => match av with
  | [.ref a, .int r] => a = zk_ad E 22 ∧ MI σ.1 σ.2.1 ∧ RD σ.1 σ.2.1 r (fun j => ∀ J2 N2, QE σ.1 J2 σ.2.1 N2 0 → P (some (.int (a_far σ.1 σ.2.1 j))) (J2, N2, σ.2.2) sz) (∀ J2 N2, QE σ.1 J2 σ.2.1 N2 1 → P (some (.int 0)) (J2, N2, σ.2.2) sz)
  | _ => False
theorem spe_X11_farWay (E : zk_E) (a : Nat) (r : Int32) (σ : zk_S) (sz : Nat) (P : zk_P zk_S) (PX : zk_X zk_S) : sp_X11_farWay E [.ref a, .int r] σ sz P PX = (a = zk_ad E 22 ∧ MI σ.1 σ.2.1 ∧ RD σ.1 σ.2.1 r (fun j => ∀ J2 N2, QE σ.1 J2 σ.2.1 N2 0 → P (some (.int (a_far σ.1 σ.2.1 j))) (J2, N2, σ.2.2) sz) (∀ J2 N2, QE σ.1 J2 σ.2.1 N2 1 → P (some (.int 0)) (J2, N2, σ.2.2) sz)) := propext Iff.rfl
def C_X11_farWay (E : zk_E) : zk_Cl zk_S := zk_lka [(2, 2, 0, 0, zk_rv (zk_VT E) (fun ci => Nat.beq ci 10) (sp_X11_isSolved E)), (10, 2, 0, 0, zk_rv (zk_VT E) (fun ci => Nat.beq ci 10) (sp_X11_farNow E))]
theorem r_X11_farWay (E : zk_E) (P : zk_P zk_S) (PX : zk_X zk_S) (K : Nat → zk_L → List Value → zk_W zk_S → Prop) : (∀ (n : Nat) (l1 : Option Value) (y0 : Value) (r : List Value) (σ : zk_S) (sz k c : Nat), zk_run E (zk_VT E) M_X11_farWay (C_X11_farWay E) P PX K (n + 1) 0 [some y0, l1] r (σ, sz, k, c) = (zk_isr y0 ∧ zk_run E (zk_VT E) M_X11_farWay (C_X11_farWay E) P PX K n 1 [some y0, l1] (y0 :: r) (σ, sz, k, c))) ∧
  (∀ (n : Nat) (l0 : Option Value) (y1 : Int32) (r : List Value) (σ : zk_S) (sz k c : Nat), zk_run E (zk_VT E) M_X11_farWay (C_X11_farWay E) P PX K (n + 1) 1 [l0, some (.int y1)] r (σ, sz, k, c) = zk_run E (zk_VT E) M_X11_farWay (C_X11_farWay E) P PX K n 2 [l0, some (.int y1)] (.int y1 :: r) (σ, sz, k, c)) ∧
  (∀ (n : Nat) (l0 l1 : Option Value) (v0 : Value) (v1 : Value)  (σ : zk_S) (sz k c : Nat), zk_run E (zk_VT E) M_X11_farWay (C_X11_farWay E) P PX K (n + 1) 2 [l0, l1] [v0, v1] (σ, sz, k, c) = (k + 0 ≤ 0 ∧ c + 0 ≤ 0 ∧ (zk_rv (zk_VT E) (fun ci => Nat.beq ci 10) (sp_X11_isSolved E)) [v1, v0] σ sz (fun v s2 z2 => zk_run E (zk_VT E) M_X11_farWay (C_X11_farWay E) P PX K n 5 [l0, l1] (zk_psh v []) (s2, z2, k + 0, c + 0)) (fun X s2 z2 => PX X s2 z2))) ∧
  (∀ (n : Nat) (l0 l1 : Option Value) (x : Int32) (r : List Value) (σ : zk_S) (sz k c : Nat), zk_run E (zk_VT E) M_X11_farWay (C_X11_farWay E) P PX K (n + 1) 5 [l0, l1] (.int x :: r) (σ, sz, k, c) = ((x = 0 → zk_run E (zk_VT E) M_X11_farWay (C_X11_farWay E) P PX K n 16 [l0, l1] r (σ, sz, k, c)) ∧ (¬ (x = 0) → zk_run E (zk_VT E) M_X11_farWay (C_X11_farWay E) P PX K n 8 [l0, l1] r (σ, sz, k, c)))) ∧
  (∀ (n : Nat) (l1 : Option Value) (y0 : Value) (r : List Value) (σ : zk_S) (sz k c : Nat), zk_run E (zk_VT E) M_X11_farWay (C_X11_farWay E) P PX K (n + 1) 8 [some y0, l1] r (σ, sz, k, c) = (zk_isr y0 ∧ zk_run E (zk_VT E) M_X11_farWay (C_X11_farWay E) P PX K n 9 [some y0, l1] (y0 :: r) (σ, sz, k, c))) ∧
  (∀ (n : Nat) (l0 : Option Value) (y1 : Int32) (r : List Value) (σ : zk_S) (sz k c : Nat), zk_run E (zk_VT E) M_X11_farWay (C_X11_farWay E) P PX K (n + 1) 9 [l0, some (.int y1)] r (σ, sz, k, c) = zk_run E (zk_VT E) M_X11_farWay (C_X11_farWay E) P PX K n 10 [l0, some (.int y1)] (.int y1 :: r) (σ, sz, k, c)) ∧
  (∀ (n : Nat) (l0 l1 : Option Value) (v0 : Value) (v1 : Value)  (σ : zk_S) (sz k c : Nat), zk_run E (zk_VT E) M_X11_farWay (C_X11_farWay E) P PX K (n + 1) 10 [l0, l1] [v0, v1] (σ, sz, k, c) = (k + 0 ≤ 0 ∧ c + 0 ≤ 0 ∧ (zk_rv (zk_VT E) (fun ci => Nat.beq ci 10) (sp_X11_farNow E)) [v1, v0] σ sz (fun v s2 z2 => zk_run E (zk_VT E) M_X11_farWay (C_X11_farWay E) P PX K n 13 [l0, l1] (zk_psh v []) (s2, z2, k + 0, c + 0)) (fun X s2 z2 => PX X s2 z2))) ∧
  (∀ (n : Nat) (l0 l1 : Option Value)  (r : List Value) (σ : zk_S) (sz k c : Nat), zk_run E (zk_VT E) M_X11_farWay (C_X11_farWay E) P PX K (n + 1) 13 [l0, l1] r (σ, sz, k, c) = zk_run E (zk_VT E) M_X11_farWay (C_X11_farWay E) P PX K n 17 [l0, l1] r (σ, sz, k, c)) ∧
  (∀ (n : Nat) (l0 l1 : Option Value)  (r : List Value) (σ : zk_S) (sz k c : Nat), zk_run E (zk_VT E) M_X11_farWay (C_X11_farWay E) P PX K (n + 1) 16 [l0, l1] r (σ, sz, k, c) = zk_run E (zk_VT E) M_X11_farWay (C_X11_farWay E) P PX K n 17 [l0, l1] (.int (0) :: r) (σ, sz, k, c)) ∧
  (∀ (n : Nat) (l0 l1 : Option Value) (x : Int32)  (σ : zk_S) (sz k c : Nat), zk_run E (zk_VT E) M_X11_farWay (C_X11_farWay E) P PX K (n + 1) 17 [l0, l1] [.int x] (σ, sz, k, c) = (zk_nok (some (.int)) x ∧ P (some (.int x)) σ sz ∧ k ≤ 0 ∧ c ≤ 0)) ∧
  (∀ (n : Nat) (l0 l1 : Option Value) (r : List Value) (w : zk_W zk_S), zk_go E (zk_VT E) M_X11_farWay (C_X11_farWay E) P PX K n 0 [l0, l1] r w = zk_run E (zk_VT E) M_X11_farWay (C_X11_farWay E) P PX K (n + 1) 0 [l0, l1] r w) := ⟨by intros; rfl, by intros; rfl, by intros; rfl, by intros; rfl, by intros; rfl, by intros; rfl, by intros; rfl, by intros; rfl, by intros; rfl, by intros; rfl, by intros; rfl⟩
theorem vc_X11_farWay (E : zk_E) : zk_VC E (zk_VT E) M_X11_farWay (C_X11_farWay E) 2 (sp_X11_farWay E) := by
  intro av σ sz P PX h
  obtain ⟨J, N, Q, O, U⟩ := σ
  unfold sp_X11_farWay at h
  split at h
  case h_2 => exact h.elim
  rename_i a0 r
  obtain ⟨rfl, h⟩ := h
  refine ⟨Nat.le_of_ble_eq_true rfl, fun G hG => ?_⟩
  change G 0 [some (.ref (zk_ad E 22)), some (.int r)] [] ((J, N, Q, O, U), sz, 0, 0)
  try dsimp only at h
  obtain ⟨hmi, h⟩ := h
  rcases h with ⟨j, hj, rfl, h⟩ | ⟨hr, h⟩
  · (refine hG 900 _ _ _ _ ?_; simp only [r_X11_farWay, zk_kl_none, zk_kl_int, zk_kl_ref, zk_kl_null, zk_kl_long, zk_kl_rf, zk_isr_ref, zk_isr_null, zk_isr_rf9, zk_c1_int, zk_c1_ref, zk_c1_null, zk_c1_rf, zk_psh_some, zk_psh_none, zk_nok_int, zk_nok_bool0, zk_nok_bool1, zk_nok_b, zk_fok_0, zk_fok_1, zk_fok_2, zk_fok_n, zk_fok_rf, zb_f, zb_p, zb_i, zb_a, zb_s, zk_nth_0, zk_nth_s, zk_fld_o, zk_put_o, zk_rv_eq, zk_ri_eq, zk_is_o, List.mem_cons, List.not_mem_nil, or_false, false_or, or_true, true_or, and_true, true_and, not_false_iff, not_true_eq_false, true_implies, false_implies, imp_self, implies_true, forall_const, zk_lit, zk_uj_ap, zk_un_ap, zk_un_un, zk_uj_uj, Nat.reduceEqDiff, eq_self, zk_bq, Bool.true_or, Bool.false_or, Nat.le_refl, Nat.zero_add, Nat.add_zero, Nat.reduceAdd, Nat.reduceLeDiff, Nat.le_zero_eq, and_self, and_false, false_and, ite_true, ite_false, Nat.zero_le, List.length_cons, List.length_nil, Option.some.injEq, forall_eq', reduceCtorEq, spe_X11_isSolved])
    refine ⟨hmi, Or.inl ⟨j, hj, rfl, fun J2 N2 qe hsv => ?_⟩⟩
    simp only [r_X11_farWay, zk_kl_none, zk_kl_int, zk_kl_ref, zk_kl_null, zk_kl_long, zk_kl_rf, zk_isr_ref, zk_isr_null, zk_isr_rf9, zk_c1_int, zk_c1_ref, zk_c1_null, zk_c1_rf, zk_psh_some, zk_psh_none, zk_nok_int, zk_nok_bool0, zk_nok_bool1, zk_nok_b, zk_fok_0, zk_fok_1, zk_fok_2, zk_fok_n, zk_fok_rf, zb_f, zb_p, zb_i, zb_a, zb_s, zk_nth_0, zk_nth_s, zk_fld_o, zk_put_o, zk_rv_eq, zk_ri_eq, zk_is_o, List.mem_cons, List.not_mem_nil, or_false, false_or, or_true, true_or, and_true, true_and, not_false_iff, not_true_eq_false, true_implies, false_implies, imp_self, implies_true, forall_const, zk_lit, zk_uj_ap, zk_un_ap, zk_un_un, zk_uj_uj, Nat.reduceEqDiff, eq_self, zk_bq, Bool.true_or, Bool.false_or, Nat.le_refl, Nat.zero_add, Nat.add_zero, Nat.reduceAdd, Nat.reduceLeDiff, Nat.le_zero_eq, and_self, and_false, false_and, ite_true, ite_false, Nat.zero_le, List.length_cons, List.length_nil, Option.some.injEq, forall_eq', reduceCtorEq, spe_X11_farNow]
    refine ⟨qe.es.mi hmi, hsv, ⟨j, by rw [qe.es.nr]; exact hj.1, rfl⟩, ?_⟩
    rw [RD.lt hmi hj, qe.es.a2]
    exact h J2 N2 qe
  · (refine hG 900 _ _ _ _ ?_; simp only [r_X11_farWay, zk_kl_none, zk_kl_int, zk_kl_ref, zk_kl_null, zk_kl_long, zk_kl_rf, zk_isr_ref, zk_isr_null, zk_isr_rf9, zk_c1_int, zk_c1_ref, zk_c1_null, zk_c1_rf, zk_psh_some, zk_psh_none, zk_nok_int, zk_nok_bool0, zk_nok_bool1, zk_nok_b, zk_fok_0, zk_fok_1, zk_fok_2, zk_fok_n, zk_fok_rf, zb_f, zb_p, zb_i, zb_a, zb_s, zk_nth_0, zk_nth_s, zk_fld_o, zk_put_o, zk_rv_eq, zk_ri_eq, zk_is_o, List.mem_cons, List.not_mem_nil, or_false, false_or, or_true, true_or, and_true, true_and, not_false_iff, not_true_eq_false, true_implies, false_implies, imp_self, implies_true, forall_const, zk_lit, zk_uj_ap, zk_un_ap, zk_un_un, zk_uj_uj, Nat.reduceEqDiff, eq_self, zk_bq, Bool.true_or, Bool.false_or, Nat.le_refl, Nat.zero_add, Nat.add_zero, Nat.reduceAdd, Nat.reduceLeDiff, Nat.le_zero_eq, and_self, and_false, false_and, ite_true, ite_false, Nat.zero_le, List.length_cons, List.length_nil, Option.some.injEq, forall_eq', reduceCtorEq, spe_X11_isSolved])
    refine ⟨hmi, Or.inr ⟨hr, fun J2 N2 qe => ?_⟩⟩
    exact h J2 N2 qe
theorem ct_X11_farWay {l : Launch} (hl : l.stackTraces = false) (E : zk_E) : zk_C l E (zk_VT E) yX11_farWay cX11_farWay 2 (some (.int)) rm_X11_farWay (sp_X11_farWay E) := by
  refine zk_meth (M := M_X11_farWay) (C := C_X11_farWay E) hl (by decide +kernel) rfl (fun _ _ => rfl) (zk_VT_ok E) MO_X11_farWay TO_X11_farWay THo_X11_farWay ?_ (vc_X11_farWay E)
  exact fun p e s m args below meth c X pc n mc ms sp2 h => by
    have h2 := zk_lka_mem h
    simp only [List.mem_cons, List.not_mem_nil, or_false, Prod.mk.injEq] at h2
    rcases h2 with ⟨rfl, rfl, rfl, rfl, rfl⟩ | ⟨rfl, rfl, rfl, rfl, rfl⟩
    · exact zk_coV (idx := 233) X (ct_X11_isSolved hl E) (List.forall_mem_cons.mpr ⟨zk_wi 1281 (by decide +kernel) rfl, List.forall_mem_cons.mpr ⟨zk_wi 1283 (by decide +kernel) rfl, List.forall_mem_cons.mpr ⟨zk_wp 36 (by decide +kernel) rfl, List.forall_mem_cons.mpr ⟨zk_wi 6 (by decide +kernel) rfl, List.forall_mem_cons.mpr ⟨zk_wi 1284 (by decide +kernel) rfl, fun _ h => absurd h List.not_mem_nil⟩⟩⟩⟩⟩) (fun ci h => by
      have h := Nat.eq_of_beq_eq_true h
      subst h
      exact ⟨_, _, rfl⟩) (by decide +kernel) ⟨by decide, by decide, by decide +kernel⟩ ⟨by decide, by decide⟩
    · exact zk_coV (idx := 236) X (ct_X11_farNow hl E) (List.forall_mem_cons.mpr ⟨zk_wi 1285 (by decide +kernel) rfl, List.forall_mem_cons.mpr ⟨zk_wi 1287 (by decide +kernel) rfl, List.forall_mem_cons.mpr ⟨zk_wp 37 (by decide +kernel) rfl, List.forall_mem_cons.mpr ⟨zk_wi 6 (by decide +kernel) rfl, List.forall_mem_cons.mpr ⟨zk_wi 1288 (by decide +kernel) rfl, fun _ h => absurd h List.not_mem_nil⟩⟩⟩⟩⟩) (fun ci h => by
      have h := Nat.eq_of_beq_eq_true h
      subst h
      exact ⟨_, _, rfl⟩) (by decide +kernel) ⟨by decide, by decide, by decide +kernel⟩ ⟨by decide, by decide⟩
def sp_X11_leaving (E : zk_E) : zk_Sp zk_S := fun av σ sz P PX => match av with
  | [.ref a, .int r] => a = zk_ad E 22 ∧ MI σ.1 σ.2.1 ∧ RD σ.1 σ.2.1 r (fun j => ∀ J2 N2, QE σ.1 J2 σ.2.1 N2 0 → P (some (.int (a_leav σ.1 σ.2.1 j))) (J2, N2, σ.2.2) sz) (∀ J2 N2, QE σ.1 J2 σ.2.1 N2 1 → P (some (.int 0)) (J2, N2, σ.2.2) sz)
  | _ => False
theorem spe_X11_leaving (E : zk_E) (a : Nat) (r : Int32) (σ : zk_S) (sz : Nat) (P : zk_P zk_S) (PX : zk_X zk_S) : sp_X11_leaving E [.ref a, .int r] σ sz P PX = (a = zk_ad E 22 ∧ MI σ.1 σ.2.1 ∧ RD σ.1 σ.2.1 r (fun j => ∀ J2 N2, QE σ.1 J2 σ.2.1 N2 0 → P (some (.int (a_leav σ.1 σ.2.1 j))) (J2, N2, σ.2.2) sz) (∀ J2 N2, QE σ.1 J2 σ.2.1 N2 1 → P (some (.int 0)) (J2, N2, σ.2.2) sz)) := propext Iff.rfl
def C_X11_leaving (E : zk_E) : zk_Cl zk_S := zk_lka [(2, 2, 0, 0, zk_rv (zk_VT E) (fun ci => Nat.beq ci 10) (sp_X11_isSolved E)), (10, 2, 0, 0, zk_rv (zk_VT E) (fun ci => Nat.beq ci 10) (sp_X11_leavingNow E))]
theorem r_X11_leaving (E : zk_E) (P : zk_P zk_S) (PX : zk_X zk_S) (K : Nat → zk_L → List Value → zk_W zk_S → Prop) : (∀ (n : Nat) (l1 : Option Value) (y0 : Value) (r : List Value) (σ : zk_S) (sz k c : Nat), zk_run E (zk_VT E) M_X11_leaving (C_X11_leaving E) P PX K (n + 1) 0 [some y0, l1] r (σ, sz, k, c) = (zk_isr y0 ∧ zk_run E (zk_VT E) M_X11_leaving (C_X11_leaving E) P PX K n 1 [some y0, l1] (y0 :: r) (σ, sz, k, c))) ∧
  (∀ (n : Nat) (l0 : Option Value) (y1 : Int32) (r : List Value) (σ : zk_S) (sz k c : Nat), zk_run E (zk_VT E) M_X11_leaving (C_X11_leaving E) P PX K (n + 1) 1 [l0, some (.int y1)] r (σ, sz, k, c) = zk_run E (zk_VT E) M_X11_leaving (C_X11_leaving E) P PX K n 2 [l0, some (.int y1)] (.int y1 :: r) (σ, sz, k, c)) ∧
  (∀ (n : Nat) (l0 l1 : Option Value) (v0 : Value) (v1 : Value)  (σ : zk_S) (sz k c : Nat), zk_run E (zk_VT E) M_X11_leaving (C_X11_leaving E) P PX K (n + 1) 2 [l0, l1] [v0, v1] (σ, sz, k, c) = (k + 0 ≤ 0 ∧ c + 0 ≤ 0 ∧ (zk_rv (zk_VT E) (fun ci => Nat.beq ci 10) (sp_X11_isSolved E)) [v1, v0] σ sz (fun v s2 z2 => zk_run E (zk_VT E) M_X11_leaving (C_X11_leaving E) P PX K n 5 [l0, l1] (zk_psh v []) (s2, z2, k + 0, c + 0)) (fun X s2 z2 => PX X s2 z2))) ∧
  (∀ (n : Nat) (l0 l1 : Option Value) (x : Int32) (r : List Value) (σ : zk_S) (sz k c : Nat), zk_run E (zk_VT E) M_X11_leaving (C_X11_leaving E) P PX K (n + 1) 5 [l0, l1] (.int x :: r) (σ, sz, k, c) = ((x = 0 → zk_run E (zk_VT E) M_X11_leaving (C_X11_leaving E) P PX K n 16 [l0, l1] r (σ, sz, k, c)) ∧ (¬ (x = 0) → zk_run E (zk_VT E) M_X11_leaving (C_X11_leaving E) P PX K n 8 [l0, l1] r (σ, sz, k, c)))) ∧
  (∀ (n : Nat) (l1 : Option Value) (y0 : Value) (r : List Value) (σ : zk_S) (sz k c : Nat), zk_run E (zk_VT E) M_X11_leaving (C_X11_leaving E) P PX K (n + 1) 8 [some y0, l1] r (σ, sz, k, c) = (zk_isr y0 ∧ zk_run E (zk_VT E) M_X11_leaving (C_X11_leaving E) P PX K n 9 [some y0, l1] (y0 :: r) (σ, sz, k, c))) ∧
  (∀ (n : Nat) (l0 : Option Value) (y1 : Int32) (r : List Value) (σ : zk_S) (sz k c : Nat), zk_run E (zk_VT E) M_X11_leaving (C_X11_leaving E) P PX K (n + 1) 9 [l0, some (.int y1)] r (σ, sz, k, c) = zk_run E (zk_VT E) M_X11_leaving (C_X11_leaving E) P PX K n 10 [l0, some (.int y1)] (.int y1 :: r) (σ, sz, k, c)) ∧
  (∀ (n : Nat) (l0 l1 : Option Value) (v0 : Value) (v1 : Value)  (σ : zk_S) (sz k c : Nat), zk_run E (zk_VT E) M_X11_leaving (C_X11_leaving E) P PX K (n + 1) 10 [l0, l1] [v0, v1] (σ, sz, k, c) = (k + 0 ≤ 0 ∧ c + 0 ≤ 0 ∧ (zk_rv (zk_VT E) (fun ci => Nat.beq ci 10) (sp_X11_leavingNow E)) [v1, v0] σ sz (fun v s2 z2 => zk_run E (zk_VT E) M_X11_leaving (C_X11_leaving E) P PX K n 13 [l0, l1] (zk_psh v []) (s2, z2, k + 0, c + 0)) (fun X s2 z2 => PX X s2 z2))) ∧
  (∀ (n : Nat) (l0 l1 : Option Value)  (r : List Value) (σ : zk_S) (sz k c : Nat), zk_run E (zk_VT E) M_X11_leaving (C_X11_leaving E) P PX K (n + 1) 13 [l0, l1] r (σ, sz, k, c) = zk_run E (zk_VT E) M_X11_leaving (C_X11_leaving E) P PX K n 17 [l0, l1] r (σ, sz, k, c)) ∧
  (∀ (n : Nat) (l0 l1 : Option Value)  (r : List Value) (σ : zk_S) (sz k c : Nat), zk_run E (zk_VT E) M_X11_leaving (C_X11_leaving E) P PX K (n + 1) 16 [l0, l1] r (σ, sz, k, c) = zk_run E (zk_VT E) M_X11_leaving (C_X11_leaving E) P PX K n 17 [l0, l1] (.int (0) :: r) (σ, sz, k, c)) ∧
  (∀ (n : Nat) (l0 l1 : Option Value) (x : Int32)  (σ : zk_S) (sz k c : Nat), zk_run E (zk_VT E) M_X11_leaving (C_X11_leaving E) P PX K (n + 1) 17 [l0, l1] [.int x] (σ, sz, k, c) = (zk_nok (some (.int)) x ∧ P (some (.int x)) σ sz ∧ k ≤ 0 ∧ c ≤ 0)) ∧
  (∀ (n : Nat) (l0 l1 : Option Value) (r : List Value) (w : zk_W zk_S), zk_go E (zk_VT E) M_X11_leaving (C_X11_leaving E) P PX K n 0 [l0, l1] r w = zk_run E (zk_VT E) M_X11_leaving (C_X11_leaving E) P PX K (n + 1) 0 [l0, l1] r w) := ⟨by intros; rfl, by intros; rfl, by intros; rfl, by intros; rfl, by intros; rfl, by intros; rfl, by intros; rfl, by intros; rfl, by intros; rfl, by intros; rfl, by intros; rfl⟩
theorem vc_X11_leaving (E : zk_E) : zk_VC E (zk_VT E) M_X11_leaving (C_X11_leaving E) 2 (sp_X11_leaving E) := by
  intro av σ sz P PX h
  obtain ⟨J, N, Q, O, U⟩ := σ
  unfold sp_X11_leaving at h
  split at h
  case h_2 => exact h.elim
  rename_i a0 r
  obtain ⟨rfl, h⟩ := h
  refine ⟨Nat.le_of_ble_eq_true rfl, fun G hG => ?_⟩
  change G 0 [some (.ref (zk_ad E 22)), some (.int r)] [] ((J, N, Q, O, U), sz, 0, 0)
  try dsimp only at h
  obtain ⟨hmi, h⟩ := h
  rcases h with ⟨j, hj, rfl, h⟩ | ⟨hr, h⟩
  · (refine hG 900 _ _ _ _ ?_; simp only [r_X11_leaving, zk_kl_none, zk_kl_int, zk_kl_ref, zk_kl_null, zk_kl_long, zk_kl_rf, zk_isr_ref, zk_isr_null, zk_isr_rf9, zk_c1_int, zk_c1_ref, zk_c1_null, zk_c1_rf, zk_psh_some, zk_psh_none, zk_nok_int, zk_nok_bool0, zk_nok_bool1, zk_nok_b, zk_fok_0, zk_fok_1, zk_fok_2, zk_fok_n, zk_fok_rf, zb_f, zb_p, zb_i, zb_a, zb_s, zk_nth_0, zk_nth_s, zk_fld_o, zk_put_o, zk_rv_eq, zk_ri_eq, zk_is_o, List.mem_cons, List.not_mem_nil, or_false, false_or, or_true, true_or, and_true, true_and, not_false_iff, not_true_eq_false, true_implies, false_implies, imp_self, implies_true, forall_const, zk_lit, zk_uj_ap, zk_un_ap, zk_un_un, zk_uj_uj, Nat.reduceEqDiff, eq_self, zk_bq, Bool.true_or, Bool.false_or, Nat.le_refl, Nat.zero_add, Nat.add_zero, Nat.reduceAdd, Nat.reduceLeDiff, Nat.le_zero_eq, and_self, and_false, false_and, ite_true, ite_false, Nat.zero_le, List.length_cons, List.length_nil, Option.some.injEq, forall_eq', reduceCtorEq, spe_X11_isSolved])
    refine ⟨hmi, Or.inl ⟨j, hj, rfl, fun J2 N2 qe hsv => ?_⟩⟩
    simp only [r_X11_leaving, zk_kl_none, zk_kl_int, zk_kl_ref, zk_kl_null, zk_kl_long, zk_kl_rf, zk_isr_ref, zk_isr_null, zk_isr_rf9, zk_c1_int, zk_c1_ref, zk_c1_null, zk_c1_rf, zk_psh_some, zk_psh_none, zk_nok_int, zk_nok_bool0, zk_nok_bool1, zk_nok_b, zk_fok_0, zk_fok_1, zk_fok_2, zk_fok_n, zk_fok_rf, zb_f, zb_p, zb_i, zb_a, zb_s, zk_nth_0, zk_nth_s, zk_fld_o, zk_put_o, zk_rv_eq, zk_ri_eq, zk_is_o, List.mem_cons, List.not_mem_nil, or_false, false_or, or_true, true_or, and_true, true_and, not_false_iff, not_true_eq_false, true_implies, false_implies, imp_self, implies_true, forall_const, zk_lit, zk_uj_ap, zk_un_ap, zk_un_un, zk_uj_uj, Nat.reduceEqDiff, eq_self, zk_bq, Bool.true_or, Bool.false_or, Nat.le_refl, Nat.zero_add, Nat.add_zero, Nat.reduceAdd, Nat.reduceLeDiff, Nat.le_zero_eq, and_self, and_false, false_and, ite_true, ite_false, Nat.zero_le, List.length_cons, List.length_nil, Option.some.injEq, forall_eq', reduceCtorEq, spe_X11_leavingNow]
    refine ⟨qe.es.ms hmi.1, hsv, ⟨j, by rw [qe.es.nr]; exact hj.1, rfl⟩, ?_⟩
    rw [RD.lt hmi hj, qe.es.a3]
    exact h J2 N2 qe
  · (refine hG 900 _ _ _ _ ?_; simp only [r_X11_leaving, zk_kl_none, zk_kl_int, zk_kl_ref, zk_kl_null, zk_kl_long, zk_kl_rf, zk_isr_ref, zk_isr_null, zk_isr_rf9, zk_c1_int, zk_c1_ref, zk_c1_null, zk_c1_rf, zk_psh_some, zk_psh_none, zk_nok_int, zk_nok_bool0, zk_nok_bool1, zk_nok_b, zk_fok_0, zk_fok_1, zk_fok_2, zk_fok_n, zk_fok_rf, zb_f, zb_p, zb_i, zb_a, zb_s, zk_nth_0, zk_nth_s, zk_fld_o, zk_put_o, zk_rv_eq, zk_ri_eq, zk_is_o, List.mem_cons, List.not_mem_nil, or_false, false_or, or_true, true_or, and_true, true_and, not_false_iff, not_true_eq_false, true_implies, false_implies, imp_self, implies_true, forall_const, zk_lit, zk_uj_ap, zk_un_ap, zk_un_un, zk_uj_uj, Nat.reduceEqDiff, eq_self, zk_bq, Bool.true_or, Bool.false_or, Nat.le_refl, Nat.zero_add, Nat.add_zero, Nat.reduceAdd, Nat.reduceLeDiff, Nat.le_zero_eq, and_self, and_false, false_and, ite_true, ite_false, Nat.zero_le, List.length_cons, List.length_nil, Option.some.injEq, forall_eq', reduceCtorEq, spe_X11_isSolved])
    refine ⟨hmi, Or.inr ⟨hr, fun J2 N2 qe => ?_⟩⟩
    exact h J2 N2 qe
theorem ct_X11_leaving {l : Launch} (hl : l.stackTraces = false) (E : zk_E) : zk_C l E (zk_VT E) yX11_leaving cX11_leaving 2 (some (.int)) rm_X11_leaving (sp_X11_leaving E) := by
  refine zk_meth (M := M_X11_leaving) (C := C_X11_leaving E) hl (by decide +kernel) rfl (fun _ _ => rfl) (zk_VT_ok E) MO_X11_leaving TO_X11_leaving THo_X11_leaving ?_ (vc_X11_leaving E)
  exact fun p e s m args below meth c X pc n mc ms sp2 h => by
    have h2 := zk_lka_mem h
    simp only [List.mem_cons, List.not_mem_nil, or_false, Prod.mk.injEq] at h2
    rcases h2 with ⟨rfl, rfl, rfl, rfl, rfl⟩ | ⟨rfl, rfl, rfl, rfl, rfl⟩
    · exact zk_coV (idx := 233) X (ct_X11_isSolved hl E) (List.forall_mem_cons.mpr ⟨zk_wi 1281 (by decide +kernel) rfl, List.forall_mem_cons.mpr ⟨zk_wi 1283 (by decide +kernel) rfl, List.forall_mem_cons.mpr ⟨zk_wp 36 (by decide +kernel) rfl, List.forall_mem_cons.mpr ⟨zk_wi 6 (by decide +kernel) rfl, List.forall_mem_cons.mpr ⟨zk_wi 1284 (by decide +kernel) rfl, fun _ h => absurd h List.not_mem_nil⟩⟩⟩⟩⟩) (fun ci h => by
      have h := Nat.eq_of_beq_eq_true h
      subst h
      exact ⟨_, _, rfl⟩) (by decide +kernel) ⟨by decide, by decide, by decide +kernel⟩ ⟨by decide, by decide⟩
    · exact zk_coV (idx := 239) X (ct_X11_leavingNow hl E) (List.forall_mem_cons.mpr ⟨zk_wi 1293 (by decide +kernel) rfl, List.forall_mem_cons.mpr ⟨zk_wi 1295 (by decide +kernel) rfl, List.forall_mem_cons.mpr ⟨zk_wp 38 (by decide +kernel) rfl, List.forall_mem_cons.mpr ⟨zk_wi 6 (by decide +kernel) rfl, List.forall_mem_cons.mpr ⟨zk_wi 1296 (by decide +kernel) rfl, fun _ h => absurd h List.not_mem_nil⟩⟩⟩⟩⟩) (fun ci h => by
      have h := Nat.eq_of_beq_eq_true h
      subst h
      exact ⟨_, _, rfl⟩) (by decide +kernel) ⟨by decide, by decide, by decide +kernel⟩ ⟨by decide, by decide⟩
def sp_X11_middleWay (E : zk_E) : zk_Sp zk_S := fun av σ sz P PX => match av with
  | [.ref a, .int r] => a = zk_ad E 22 ∧ MI σ.1 σ.2.1 ∧ RD σ.1 σ.2.1 r (fun j => ∀ J2 N2, QE σ.1 J2 σ.2.1 N2 0 → P (some (.int (a_mid σ.1 σ.2.1 j))) (J2, N2, σ.2.2) sz) (∀ J2 N2, QE σ.1 J2 σ.2.1 N2 1 → P (some (.int 0)) (J2, N2, σ.2.2) sz)
  | _ => False
theorem spe_X11_middleWay (E : zk_E) (a : Nat) (r : Int32) (σ : zk_S) (sz : Nat) (P : zk_P zk_S) (PX : zk_X zk_S) : sp_X11_middleWay E [.ref a, .int r] σ sz P PX = (a = zk_ad E 22 ∧ MI σ.1 σ.2.1 ∧ RD σ.1 σ.2.1 r (fun j => ∀ J2 N2, QE σ.1 J2 σ.2.1 N2 0 → P (some (.int (a_mid σ.1 σ.2.1 j))) (J2, N2, σ.2.2) sz) (∀ J2 N2, QE σ.1 J2 σ.2.1 N2 1 → P (some (.int 0)) (J2, N2, σ.2.2) sz)) := propext Iff.rfl
def C_X11_middleWay (E : zk_E) : zk_Cl zk_S := zk_lka [(2, 2, 0, 0, zk_rv (zk_VT E) (fun ci => Nat.beq ci 10) (sp_X11_isSolved E)), (10, 2, 0, 0, zk_rv (zk_VT E) (fun ci => Nat.beq ci 10) (sp_X11_middleNow E))]
theorem r_X11_middleWay (E : zk_E) (P : zk_P zk_S) (PX : zk_X zk_S) (K : Nat → zk_L → List Value → zk_W zk_S → Prop) : (∀ (n : Nat) (l1 : Option Value) (y0 : Value) (r : List Value) (σ : zk_S) (sz k c : Nat), zk_run E (zk_VT E) M_X11_middleWay (C_X11_middleWay E) P PX K (n + 1) 0 [some y0, l1] r (σ, sz, k, c) = (zk_isr y0 ∧ zk_run E (zk_VT E) M_X11_middleWay (C_X11_middleWay E) P PX K n 1 [some y0, l1] (y0 :: r) (σ, sz, k, c))) ∧
  (∀ (n : Nat) (l0 : Option Value) (y1 : Int32) (r : List Value) (σ : zk_S) (sz k c : Nat), zk_run E (zk_VT E) M_X11_middleWay (C_X11_middleWay E) P PX K (n + 1) 1 [l0, some (.int y1)] r (σ, sz, k, c) = zk_run E (zk_VT E) M_X11_middleWay (C_X11_middleWay E) P PX K n 2 [l0, some (.int y1)] (.int y1 :: r) (σ, sz, k, c)) ∧
  (∀ (n : Nat) (l0 l1 : Option Value) (v0 : Value) (v1 : Value)  (σ : zk_S) (sz k c : Nat), zk_run E (zk_VT E) M_X11_middleWay (C_X11_middleWay E) P PX K (n + 1) 2 [l0, l1] [v0, v1] (σ, sz, k, c) = (k + 0 ≤ 0 ∧ c + 0 ≤ 0 ∧ (zk_rv (zk_VT E) (fun ci => Nat.beq ci 10) (sp_X11_isSolved E)) [v1, v0] σ sz (fun v s2 z2 => zk_run E (zk_VT E) M_X11_middleWay (C_X11_middleWay E) P PX K n 5 [l0, l1] (zk_psh v []) (s2, z2, k + 0, c + 0)) (fun X s2 z2 => PX X s2 z2))) ∧
  (∀ (n : Nat) (l0 l1 : Option Value) (x : Int32) (r : List Value) (σ : zk_S) (sz k c : Nat), zk_run E (zk_VT E) M_X11_middleWay (C_X11_middleWay E) P PX K (n + 1) 5 [l0, l1] (.int x :: r) (σ, sz, k, c) = ((x = 0 → zk_run E (zk_VT E) M_X11_middleWay (C_X11_middleWay E) P PX K n 16 [l0, l1] r (σ, sz, k, c)) ∧ (¬ (x = 0) → zk_run E (zk_VT E) M_X11_middleWay (C_X11_middleWay E) P PX K n 8 [l0, l1] r (σ, sz, k, c)))) ∧
  (∀ (n : Nat) (l1 : Option Value) (y0 : Value) (r : List Value) (σ : zk_S) (sz k c : Nat), zk_run E (zk_VT E) M_X11_middleWay (C_X11_middleWay E) P PX K (n + 1) 8 [some y0, l1] r (σ, sz, k, c) = (zk_isr y0 ∧ zk_run E (zk_VT E) M_X11_middleWay (C_X11_middleWay E) P PX K n 9 [some y0, l1] (y0 :: r) (σ, sz, k, c))) ∧
  (∀ (n : Nat) (l0 : Option Value) (y1 : Int32) (r : List Value) (σ : zk_S) (sz k c : Nat), zk_run E (zk_VT E) M_X11_middleWay (C_X11_middleWay E) P PX K (n + 1) 9 [l0, some (.int y1)] r (σ, sz, k, c) = zk_run E (zk_VT E) M_X11_middleWay (C_X11_middleWay E) P PX K n 10 [l0, some (.int y1)] (.int y1 :: r) (σ, sz, k, c)) ∧
  (∀ (n : Nat) (l0 l1 : Option Value) (v0 : Value) (v1 : Value)  (σ : zk_S) (sz k c : Nat), zk_run E (zk_VT E) M_X11_middleWay (C_X11_middleWay E) P PX K (n + 1) 10 [l0, l1] [v0, v1] (σ, sz, k, c) = (k + 0 ≤ 0 ∧ c + 0 ≤ 0 ∧ (zk_rv (zk_VT E) (fun ci => Nat.beq ci 10) (sp_X11_middleNow E)) [v1, v0] σ sz (fun v s2 z2 => zk_run E (zk_VT E) M_X11_middleWay (C_X11_middleWay E) P PX K n 13 [l0, l1] (zk_psh v []) (s2, z2, k + 0, c + 0)) (fun X s2 z2 => PX X s2 z2))) ∧
  (∀ (n : Nat) (l0 l1 : Option Value)  (r : List Value) (σ : zk_S) (sz k c : Nat), zk_run E (zk_VT E) M_X11_middleWay (C_X11_middleWay E) P PX K (n + 1) 13 [l0, l1] r (σ, sz, k, c) = zk_run E (zk_VT E) M_X11_middleWay (C_X11_middleWay E) P PX K n 17 [l0, l1] r (σ, sz, k, c)) ∧
  (∀ (n : Nat) (l0 l1 : Option Value)  (r : List Value) (σ : zk_S) (sz k c : Nat), zk_run E (zk_VT E) M_X11_middleWay (C_X11_middleWay E) P PX K (n + 1) 16 [l0, l1] r (σ, sz, k, c) = zk_run E (zk_VT E) M_X11_middleWay (C_X11_middleWay E) P PX K n 17 [l0, l1] (.int (0) :: r) (σ, sz, k, c)) ∧
  (∀ (n : Nat) (l0 l1 : Option Value) (x : Int32)  (σ : zk_S) (sz k c : Nat), zk_run E (zk_VT E) M_X11_middleWay (C_X11_middleWay E) P PX K (n + 1) 17 [l0, l1] [.int x] (σ, sz, k, c) = (zk_nok (some (.int)) x ∧ P (some (.int x)) σ sz ∧ k ≤ 0 ∧ c ≤ 0)) ∧
  (∀ (n : Nat) (l0 l1 : Option Value) (r : List Value) (w : zk_W zk_S), zk_go E (zk_VT E) M_X11_middleWay (C_X11_middleWay E) P PX K n 0 [l0, l1] r w = zk_run E (zk_VT E) M_X11_middleWay (C_X11_middleWay E) P PX K (n + 1) 0 [l0, l1] r w) := ⟨by intros; rfl, by intros; rfl, by intros; rfl, by intros; rfl, by intros; rfl, by intros; rfl, by intros; rfl, by intros; rfl, by intros; rfl, by intros; rfl, by intros; rfl⟩
theorem vc_X11_middleWay (E : zk_E) : zk_VC E (zk_VT E) M_X11_middleWay (C_X11_middleWay E) 2 (sp_X11_middleWay E) := by
  intro av σ sz P PX h
  obtain ⟨J, N, Q, O, U⟩ := σ
  unfold sp_X11_middleWay at h
  split at h
  case h_2 => exact h.elim
  rename_i a0 r
  obtain ⟨rfl, h⟩ := h
  refine ⟨Nat.le_of_ble_eq_true rfl, fun G hG => ?_⟩
  change G 0 [some (.ref (zk_ad E 22)), some (.int r)] [] ((J, N, Q, O, U), sz, 0, 0)
  try dsimp only at h
  obtain ⟨hmi, h⟩ := h
  rcases h with ⟨j, hj, rfl, h⟩ | ⟨hr, h⟩
  · (refine hG 900 _ _ _ _ ?_; simp only [r_X11_middleWay, zk_kl_none, zk_kl_int, zk_kl_ref, zk_kl_null, zk_kl_long, zk_kl_rf, zk_isr_ref, zk_isr_null, zk_isr_rf9, zk_c1_int, zk_c1_ref, zk_c1_null, zk_c1_rf, zk_psh_some, zk_psh_none, zk_nok_int, zk_nok_bool0, zk_nok_bool1, zk_nok_b, zk_fok_0, zk_fok_1, zk_fok_2, zk_fok_n, zk_fok_rf, zb_f, zb_p, zb_i, zb_a, zb_s, zk_nth_0, zk_nth_s, zk_fld_o, zk_put_o, zk_rv_eq, zk_ri_eq, zk_is_o, List.mem_cons, List.not_mem_nil, or_false, false_or, or_true, true_or, and_true, true_and, not_false_iff, not_true_eq_false, true_implies, false_implies, imp_self, implies_true, forall_const, zk_lit, zk_uj_ap, zk_un_ap, zk_un_un, zk_uj_uj, Nat.reduceEqDiff, eq_self, zk_bq, Bool.true_or, Bool.false_or, Nat.le_refl, Nat.zero_add, Nat.add_zero, Nat.reduceAdd, Nat.reduceLeDiff, Nat.le_zero_eq, and_self, and_false, false_and, ite_true, ite_false, Nat.zero_le, List.length_cons, List.length_nil, Option.some.injEq, forall_eq', reduceCtorEq, spe_X11_isSolved])
    refine ⟨hmi, Or.inl ⟨j, hj, rfl, fun J2 N2 qe hsv => ?_⟩⟩
    simp only [r_X11_middleWay, zk_kl_none, zk_kl_int, zk_kl_ref, zk_kl_null, zk_kl_long, zk_kl_rf, zk_isr_ref, zk_isr_null, zk_isr_rf9, zk_c1_int, zk_c1_ref, zk_c1_null, zk_c1_rf, zk_psh_some, zk_psh_none, zk_nok_int, zk_nok_bool0, zk_nok_bool1, zk_nok_b, zk_fok_0, zk_fok_1, zk_fok_2, zk_fok_n, zk_fok_rf, zb_f, zb_p, zb_i, zb_a, zb_s, zk_nth_0, zk_nth_s, zk_fld_o, zk_put_o, zk_rv_eq, zk_ri_eq, zk_is_o, List.mem_cons, List.not_mem_nil, or_false, false_or, or_true, true_or, and_true, true_and, not_false_iff, not_true_eq_false, true_implies, false_implies, imp_self, implies_true, forall_const, zk_lit, zk_uj_ap, zk_un_ap, zk_un_un, zk_uj_uj, Nat.reduceEqDiff, eq_self, zk_bq, Bool.true_or, Bool.false_or, Nat.le_refl, Nat.zero_add, Nat.add_zero, Nat.reduceAdd, Nat.reduceLeDiff, Nat.le_zero_eq, and_self, and_false, false_and, ite_true, ite_false, Nat.zero_le, List.length_cons, List.length_nil, Option.some.injEq, forall_eq', reduceCtorEq, spe_X11_middleNow]
    refine ⟨qe.es.ms hmi.1, hsv, ⟨j, by rw [qe.es.nr]; exact hj.1, rfl⟩, ?_⟩
    rw [RD.lt hmi hj, qe.es.a4]
    exact h J2 N2 qe
  · (refine hG 900 _ _ _ _ ?_; simp only [r_X11_middleWay, zk_kl_none, zk_kl_int, zk_kl_ref, zk_kl_null, zk_kl_long, zk_kl_rf, zk_isr_ref, zk_isr_null, zk_isr_rf9, zk_c1_int, zk_c1_ref, zk_c1_null, zk_c1_rf, zk_psh_some, zk_psh_none, zk_nok_int, zk_nok_bool0, zk_nok_bool1, zk_nok_b, zk_fok_0, zk_fok_1, zk_fok_2, zk_fok_n, zk_fok_rf, zb_f, zb_p, zb_i, zb_a, zb_s, zk_nth_0, zk_nth_s, zk_fld_o, zk_put_o, zk_rv_eq, zk_ri_eq, zk_is_o, List.mem_cons, List.not_mem_nil, or_false, false_or, or_true, true_or, and_true, true_and, not_false_iff, not_true_eq_false, true_implies, false_implies, imp_self, implies_true, forall_const, zk_lit, zk_uj_ap, zk_un_ap, zk_un_un, zk_uj_uj, Nat.reduceEqDiff, eq_self, zk_bq, Bool.true_or, Bool.false_or, Nat.le_refl, Nat.zero_add, Nat.add_zero, Nat.reduceAdd, Nat.reduceLeDiff, Nat.le_zero_eq, and_self, and_false, false_and, ite_true, ite_false, Nat.zero_le, List.length_cons, List.length_nil, Option.some.injEq, forall_eq', reduceCtorEq, spe_X11_isSolved])
    refine ⟨hmi, Or.inr ⟨hr, fun J2 N2 qe => ?_⟩⟩
    exact h J2 N2 qe
theorem ct_X11_middleWay {l : Launch} (hl : l.stackTraces = false) (E : zk_E) : zk_C l E (zk_VT E) yX11_middleWay cX11_middleWay 2 (some (.int)) rm_X11_middleWay (sp_X11_middleWay E) := by
  refine zk_meth (M := M_X11_middleWay) (C := C_X11_middleWay E) hl (by decide +kernel) rfl (fun _ _ => rfl) (zk_VT_ok E) MO_X11_middleWay TO_X11_middleWay THo_X11_middleWay ?_ (vc_X11_middleWay E)
  exact fun p e s m args below meth c X pc n mc ms sp2 h => by
    have h2 := zk_lka_mem h
    simp only [List.mem_cons, List.not_mem_nil, or_false, Prod.mk.injEq] at h2
    rcases h2 with ⟨rfl, rfl, rfl, rfl, rfl⟩ | ⟨rfl, rfl, rfl, rfl, rfl⟩
    · exact zk_coV (idx := 233) X (ct_X11_isSolved hl E) (List.forall_mem_cons.mpr ⟨zk_wi 1281 (by decide +kernel) rfl, List.forall_mem_cons.mpr ⟨zk_wi 1283 (by decide +kernel) rfl, List.forall_mem_cons.mpr ⟨zk_wp 36 (by decide +kernel) rfl, List.forall_mem_cons.mpr ⟨zk_wi 6 (by decide +kernel) rfl, List.forall_mem_cons.mpr ⟨zk_wi 1284 (by decide +kernel) rfl, fun _ h => absurd h List.not_mem_nil⟩⟩⟩⟩⟩) (fun ci h => by
      have h := Nat.eq_of_beq_eq_true h
      subst h
      exact ⟨_, _, rfl⟩) (by decide +kernel) ⟨by decide, by decide, by decide +kernel⟩ ⟨by decide, by decide⟩
    · exact zk_coV (idx := 242) X (ct_X11_middleNow hl E) (List.forall_mem_cons.mpr ⟨zk_wi 1301 (by decide +kernel) rfl, List.forall_mem_cons.mpr ⟨zk_wi 1303 (by decide +kernel) rfl, List.forall_mem_cons.mpr ⟨zk_wp 39 (by decide +kernel) rfl, List.forall_mem_cons.mpr ⟨zk_wi 6 (by decide +kernel) rfl, List.forall_mem_cons.mpr ⟨zk_wi 1304 (by decide +kernel) rfl, fun _ h => absurd h List.not_mem_nil⟩⟩⟩⟩⟩) (fun ci h => by
      have h := Nat.eq_of_beq_eq_true h
      subst h
      exact ⟨_, _, rfl⟩) (by decide +kernel) ⟨by decide, by decide, by decide +kernel⟩ ⟨by decide, by decide⟩
def sp_X11_depth (E : zk_E) : zk_Sp zk_S := fun av σ sz P PX => match av with
  | [.ref a, .int r] => a = zk_ad E 22 ∧ MI σ.1 σ.2.1 ∧ RD σ.1 σ.2.1 r (fun j => ∀ J2 N2, QE σ.1 J2 σ.2.1 N2 0 → P (some (.int (g_deep σ.1 σ.2.1 j))) (J2, N2, σ.2.2) sz) (∀ J2 N2, QE σ.1 J2 σ.2.1 N2 1 → P (some (.int 0)) (J2, N2, σ.2.2) sz)
  | _ => False
theorem spe_X11_depth (E : zk_E) (a : Nat) (r : Int32) (σ : zk_S) (sz : Nat) (P : zk_P zk_S) (PX : zk_X zk_S) : sp_X11_depth E [.ref a, .int r] σ sz P PX = (a = zk_ad E 22 ∧ MI σ.1 σ.2.1 ∧ RD σ.1 σ.2.1 r (fun j => ∀ J2 N2, QE σ.1 J2 σ.2.1 N2 0 → P (some (.int (g_deep σ.1 σ.2.1 j))) (J2, N2, σ.2.2) sz) (∀ J2 N2, QE σ.1 J2 σ.2.1 N2 1 → P (some (.int 0)) (J2, N2, σ.2.2) sz)) := propext Iff.rfl
def C_X11_depth (E : zk_E) : zk_Cl zk_S := zk_lka [(2, 2, 0, 0, zk_rv (zk_VT E) (fun ci => Nat.beq ci 10) (sp_X11_isSolved E))]
theorem r_X11_depth (E : zk_E) (P : zk_P zk_S) (PX : zk_X zk_S) (K : Nat → zk_L → List Value → zk_W zk_S → Prop) : (∀ (n : Nat) (l1 : Option Value) (y0 : Value) (r : List Value) (σ : zk_S) (sz k c : Nat), zk_run E (zk_VT E) M_X11_depth (C_X11_depth E) P PX K (n + 1) 0 [some y0, l1] r (σ, sz, k, c) = (zk_isr y0 ∧ zk_run E (zk_VT E) M_X11_depth (C_X11_depth E) P PX K n 1 [some y0, l1] (y0 :: r) (σ, sz, k, c))) ∧
  (∀ (n : Nat) (l0 : Option Value) (y1 : Int32) (r : List Value) (σ : zk_S) (sz k c : Nat), zk_run E (zk_VT E) M_X11_depth (C_X11_depth E) P PX K (n + 1) 1 [l0, some (.int y1)] r (σ, sz, k, c) = zk_run E (zk_VT E) M_X11_depth (C_X11_depth E) P PX K n 2 [l0, some (.int y1)] (.int y1 :: r) (σ, sz, k, c)) ∧
  (∀ (n : Nat) (l0 l1 : Option Value) (v0 : Value) (v1 : Value)  (σ : zk_S) (sz k c : Nat), zk_run E (zk_VT E) M_X11_depth (C_X11_depth E) P PX K (n + 1) 2 [l0, l1] [v0, v1] (σ, sz, k, c) = (k + 0 ≤ 0 ∧ c + 0 ≤ 0 ∧ (zk_rv (zk_VT E) (fun ci => Nat.beq ci 10) (sp_X11_isSolved E)) [v1, v0] σ sz (fun v s2 z2 => zk_run E (zk_VT E) M_X11_depth (C_X11_depth E) P PX K n 5 [l0, l1] (zk_psh v []) (s2, z2, k + 0, c + 0)) (fun X s2 z2 => PX X s2 z2))) ∧
  (∀ (n : Nat) (l0 l1 : Option Value) (x : Int32) (r : List Value) (σ : zk_S) (sz k c : Nat), zk_run E (zk_VT E) M_X11_depth (C_X11_depth E) P PX K (n + 1) 5 [l0, l1] (.int x :: r) (σ, sz, k, c) = ((x = 0 → zk_run E (zk_VT E) M_X11_depth (C_X11_depth E) P PX K n 17 [l0, l1] r (σ, sz, k, c)) ∧ (¬ (x = 0) → zk_run E (zk_VT E) M_X11_depth (C_X11_depth E) P PX K n 8 [l0, l1] r (σ, sz, k, c)))) ∧
  (∀ (n : Nat) (l1 : Option Value) (y0 : Value) (r : List Value) (σ : zk_S) (sz k c : Nat), zk_run E (zk_VT E) M_X11_depth (C_X11_depth E) P PX K (n + 1) 8 [some y0, l1] r (σ, sz, k, c) = (zk_isr y0 ∧ zk_run E (zk_VT E) M_X11_depth (C_X11_depth E) P PX K n 9 [some y0, l1] (y0 :: r) (σ, sz, k, c))) ∧
  (∀ (n : Nat) (l0 l1 : Option Value) (a : Nat) (r : List Value) (σ : zk_S) (sz k c : Nat), zk_run E (zk_VT E) M_X11_depth (C_X11_depth E) P PX K (n + 1) 9 [l0, l1] (.ref a :: r) (σ, sz, k, c) = zk_fld (zk_view E σ a) [10] 32 (fun v => zk_run E (zk_VT E) M_X11_depth (C_X11_depth E) P PX K n 12 [l0, l1] (v :: r) (σ, sz, k, c))) ∧
  (∀ (n : Nat) (l0 : Option Value) (y1 : Int32) (r : List Value) (σ : zk_S) (sz k c : Nat), zk_run E (zk_VT E) M_X11_depth (C_X11_depth E) P PX K (n + 1) 12 [l0, some (.int y1)] r (σ, sz, k, c) = zk_run E (zk_VT E) M_X11_depth (C_X11_depth E) P PX K n 13 [l0, some (.int y1)] (.int y1 :: r) (σ, sz, k, c)) ∧
  (∀ (n : Nat) (l0 l1 : Option Value) (a : Nat) (i : Int32) (r : List Value) (σ : zk_S) (sz k c : Nat), zk_run E (zk_VT E) M_X11_depth (C_X11_depth E) P PX K (n + 1) 13 [l0, l1] (.int i :: .ref a :: r) (σ, sz, k, c) = zk_ild (zk_view E σ a) (zk_ar E 0) i (fun x => zk_run E (zk_VT E) M_X11_depth (C_X11_depth E) P PX K n 14 [l0, l1] (.int x :: r) (σ, sz, k, c))) ∧
  (∀ (n : Nat) (l0 l1 : Option Value)  (r : List Value) (σ : zk_S) (sz k c : Nat), zk_run E (zk_VT E) M_X11_depth (C_X11_depth E) P PX K (n + 1) 14 [l0, l1] r (σ, sz, k, c) = zk_run E (zk_VT E) M_X11_depth (C_X11_depth E) P PX K n 18 [l0, l1] r (σ, sz, k, c)) ∧
  (∀ (n : Nat) (l0 l1 : Option Value)  (r : List Value) (σ : zk_S) (sz k c : Nat), zk_run E (zk_VT E) M_X11_depth (C_X11_depth E) P PX K (n + 1) 17 [l0, l1] r (σ, sz, k, c) = zk_run E (zk_VT E) M_X11_depth (C_X11_depth E) P PX K n 18 [l0, l1] (.int (0) :: r) (σ, sz, k, c)) ∧
  (∀ (n : Nat) (l0 l1 : Option Value) (x : Int32)  (σ : zk_S) (sz k c : Nat), zk_run E (zk_VT E) M_X11_depth (C_X11_depth E) P PX K (n + 1) 18 [l0, l1] [.int x] (σ, sz, k, c) = (zk_nok (some (.int)) x ∧ P (some (.int x)) σ sz ∧ k ≤ 0 ∧ c ≤ 0)) ∧
  (∀ (n : Nat) (l0 l1 : Option Value) (r : List Value) (w : zk_W zk_S), zk_go E (zk_VT E) M_X11_depth (C_X11_depth E) P PX K n 0 [l0, l1] r w = zk_run E (zk_VT E) M_X11_depth (C_X11_depth E) P PX K (n + 1) 0 [l0, l1] r w) := ⟨by intros; rfl, by intros; rfl, by intros; rfl, by intros; rfl, by intros; rfl, by intros; rfl, by intros; rfl, by intros; rfl, by intros; rfl, by intros; rfl, by intros; rfl, by intros; rfl⟩
theorem vc_X11_depth (E : zk_E) : zk_VC E (zk_VT E) M_X11_depth (C_X11_depth E) 2 (sp_X11_depth E) := by
  intro av σ sz P PX h
  obtain ⟨J, N, Q, O, U⟩ := σ
  unfold sp_X11_depth at h
  split at h
  case h_2 => exact h.elim
  rename_i a0 r
  obtain ⟨rfl, h⟩ := h
  refine ⟨Nat.le_of_ble_eq_true rfl, fun G hG => ?_⟩
  change G 0 [some (.ref (zk_ad E 22)), some (.int r)] [] ((J, N, Q, O, U), sz, 0, 0)
  try dsimp only at h
  obtain ⟨hmi, h⟩ := h
  rcases h with ⟨j, hj, rfl, h⟩ | ⟨hr, h⟩
  · (refine hG 900 _ _ _ _ ?_; simp only [r_X11_depth, zk_kl_none, zk_kl_int, zk_kl_ref, zk_kl_null, zk_kl_long, zk_kl_rf, zk_isr_ref, zk_isr_null, zk_isr_rf9, zk_c1_int, zk_c1_ref, zk_c1_null, zk_c1_rf, zk_psh_some, zk_psh_none, zk_nok_int, zk_nok_bool0, zk_nok_bool1, zk_nok_b, zk_fok_0, zk_fok_1, zk_fok_2, zk_fok_n, zk_fok_rf, zb_f, zb_p, zb_i, zb_a, zb_s, zk_nth_0, zk_nth_s, zk_fld_o, zk_put_o, zk_rv_eq, zk_ri_eq, zk_is_o, List.mem_cons, List.not_mem_nil, or_false, false_or, or_true, true_or, and_true, true_and, not_false_iff, not_true_eq_false, true_implies, false_implies, imp_self, implies_true, forall_const, zk_lit, zk_uj_ap, zk_un_ap, zk_un_un, zk_uj_uj, Nat.reduceEqDiff, eq_self, zk_bq, Bool.true_or, Bool.false_or, Nat.le_refl, Nat.zero_add, Nat.add_zero, Nat.reduceAdd, Nat.reduceLeDiff, Nat.le_zero_eq, and_self, and_false, false_and, ite_true, ite_false, Nat.zero_le, List.length_cons, List.length_nil, Option.some.injEq, forall_eq', reduceCtorEq, spe_X11_isSolved])
    refine ⟨hmi, Or.inl ⟨j, hj, rfl, fun J2 N2 qe hsv => ?_⟩⟩
    have h50 := (hsv.2.2 j (by rw [qe.es.nr]; exact hj.1)).2.2
    rw [qe.es.deep] at h50
    have hin : vp_in (nI j) 20 := n_in (hj.lt hmi) (by decide)
    have hcl := RD.lt hmi hj
    simp only [r_X11_depth, zk_kl_none, zk_kl_int, zk_kl_ref, zk_kl_null, zk_kl_long, zk_kl_rf, zk_isr_ref, zk_isr_null, zk_isr_rf9, zk_c1_int, zk_c1_ref, zk_c1_null, zk_c1_rf, zk_psh_some, zk_psh_none, zk_nok_int, zk_nok_bool0, zk_nok_bool1, zk_nok_b, zk_fok_0, zk_fok_1, zk_fok_2, zk_fok_n, zk_fok_rf, zb_f, zb_p, zb_i, zb_a, zb_s, zk_nth_0, zk_nth_s, zk_fld_o, zk_put_o, zk_rv_eq, zk_ri_eq, zk_is_o, List.mem_cons, List.not_mem_nil, or_false, false_or, or_true, true_or, and_true, true_and, not_false_iff, not_true_eq_false, true_implies, false_implies, imp_self, implies_true, forall_const, zk_lit, zk_uj_ap, zk_un_ap, zk_un_un, zk_uj_uj, Nat.reduceEqDiff, eq_self, zk_bq, Bool.true_or, Bool.false_or, Nat.le_refl, Nat.zero_add, Nat.add_zero, Nat.reduceAdd, Nat.reduceLeDiff, Nat.le_zero_eq, and_self, and_false, false_and, ite_true, ite_false, Nat.zero_le, List.length_cons, List.length_nil, Option.some.injEq, forall_eq', reduceCtorEq, hin, hcl, h50]
    exact h J2 N2 qe
  · (refine hG 900 _ _ _ _ ?_; simp only [r_X11_depth, zk_kl_none, zk_kl_int, zk_kl_ref, zk_kl_null, zk_kl_long, zk_kl_rf, zk_isr_ref, zk_isr_null, zk_isr_rf9, zk_c1_int, zk_c1_ref, zk_c1_null, zk_c1_rf, zk_psh_some, zk_psh_none, zk_nok_int, zk_nok_bool0, zk_nok_bool1, zk_nok_b, zk_fok_0, zk_fok_1, zk_fok_2, zk_fok_n, zk_fok_rf, zb_f, zb_p, zb_i, zb_a, zb_s, zk_nth_0, zk_nth_s, zk_fld_o, zk_put_o, zk_rv_eq, zk_ri_eq, zk_is_o, List.mem_cons, List.not_mem_nil, or_false, false_or, or_true, true_or, and_true, true_and, not_false_iff, not_true_eq_false, true_implies, false_implies, imp_self, implies_true, forall_const, zk_lit, zk_uj_ap, zk_un_ap, zk_un_un, zk_uj_uj, Nat.reduceEqDiff, eq_self, zk_bq, Bool.true_or, Bool.false_or, Nat.le_refl, Nat.zero_add, Nat.add_zero, Nat.reduceAdd, Nat.reduceLeDiff, Nat.le_zero_eq, and_self, and_false, false_and, ite_true, ite_false, Nat.zero_le, List.length_cons, List.length_nil, Option.some.injEq, forall_eq', reduceCtorEq, spe_X11_isSolved])
    refine ⟨hmi, Or.inr ⟨hr, fun J2 N2 qe => ?_⟩⟩
    exact h J2 N2 qe
theorem ct_X11_depth {l : Launch} (hl : l.stackTraces = false) (E : zk_E) : zk_C l E (zk_VT E) yX11_depth cX11_depth 2 (some (.int)) rm_X11_depth (sp_X11_depth E) := by
  refine zk_meth (M := M_X11_depth) (C := C_X11_depth E) hl (by decide +kernel) rfl (fun _ _ => rfl) (zk_VT_ok E) MO_X11_depth TO_X11_depth THo_X11_depth ?_ (vc_X11_depth E)
  exact fun p e s m args below meth c X pc n mc ms sp2 h => by
    have h2 := zk_lka_mem h
    simp only [List.mem_cons, List.not_mem_nil, or_false, Prod.mk.injEq] at h2
    rcases h2 with ⟨rfl, rfl, rfl, rfl, rfl⟩
    exact zk_coV (idx := 233) X (ct_X11_isSolved hl E) (List.forall_mem_cons.mpr ⟨zk_wi 1281 (by decide +kernel) rfl, List.forall_mem_cons.mpr ⟨zk_wi 1283 (by decide +kernel) rfl, List.forall_mem_cons.mpr ⟨zk_wp 36 (by decide +kernel) rfl, List.forall_mem_cons.mpr ⟨zk_wi 6 (by decide +kernel) rfl, List.forall_mem_cons.mpr ⟨zk_wi 1284 (by decide +kernel) rfl, fun _ h => absurd h List.not_mem_nil⟩⟩⟩⟩⟩) (fun ci h => by
      have h := Nat.eq_of_beq_eq_true h
      subst h
      exact ⟨_, _, rfl⟩) (by decide +kernel) ⟨by decide, by decide, by decide +kernel⟩ ⟨by decide, by decide⟩
def sp_X11_wayNow (E : zk_E) : zk_Sp zk_S := fun av σ sz P PX => match av with
  | [.ref a, .int x] => a = zk_ad E 22 ∧ MS σ.1 ∧ SV σ.1 σ.2.1 ∧ (∃ e, e < 100 ∧ x = nI e) ∧ P (some (.int (a_way σ.1 σ.2.1 x.toNatClampNeg))) σ sz
  | _ => False
theorem spe_X11_wayNow (E : zk_E) (a : Nat) (x : Int32) (σ : zk_S) (sz : Nat) (P : zk_P zk_S) (PX : zk_X zk_S) : sp_X11_wayNow E [.ref a, .int x] σ sz P PX = (a = zk_ad E 22 ∧ MS σ.1 ∧ SV σ.1 σ.2.1 ∧ (∃ e, e < 100 ∧ x = nI e) ∧ P (some (.int (a_way σ.1 σ.2.1 x.toNatClampNeg))) σ sz) := propext Iff.rfl
def C_X11_wayNow (E : zk_E) : zk_Cl zk_S := zk_lka [(2, 2, 0, 0, zk_rv (zk_VT E) (fun ci => Nat.beq ci 10) (sp_X11_from E))]
theorem r_X11_wayNow (E : zk_E) (P : zk_P zk_S) (PX : zk_X zk_S) (K : Nat → zk_L → List Value → zk_W zk_S → Prop) : (∀ (n : Nat) (l1 : Option Value) (y0 : Value) (r : List Value) (σ : zk_S) (sz k c : Nat), zk_run E (zk_VT E) M_X11_wayNow (C_X11_wayNow E) P PX K (n + 1) 0 [some y0, l1] r (σ, sz, k, c) = (zk_isr y0 ∧ zk_run E (zk_VT E) M_X11_wayNow (C_X11_wayNow E) P PX K n 1 [some y0, l1] (y0 :: r) (σ, sz, k, c))) ∧
  (∀ (n : Nat) (l0 : Option Value) (y1 : Int32) (r : List Value) (σ : zk_S) (sz k c : Nat), zk_run E (zk_VT E) M_X11_wayNow (C_X11_wayNow E) P PX K (n + 1) 1 [l0, some (.int y1)] r (σ, sz, k, c) = zk_run E (zk_VT E) M_X11_wayNow (C_X11_wayNow E) P PX K n 2 [l0, some (.int y1)] (.int y1 :: r) (σ, sz, k, c)) ∧
  (∀ (n : Nat) (l0 l1 : Option Value) (v0 : Value) (v1 : Value)  (σ : zk_S) (sz k c : Nat), zk_run E (zk_VT E) M_X11_wayNow (C_X11_wayNow E) P PX K (n + 1) 2 [l0, l1] [v0, v1] (σ, sz, k, c) = (k + 0 ≤ 0 ∧ c + 0 ≤ 0 ∧ (zk_rv (zk_VT E) (fun ci => Nat.beq ci 10) (sp_X11_from E)) [v1, v0] σ sz (fun v s2 z2 => zk_run E (zk_VT E) M_X11_wayNow (C_X11_wayNow E) P PX K n 5 [l0, l1] (zk_psh v []) (s2, z2, k + 0, c + 0)) (fun X s2 z2 => PX X s2 z2))) ∧
  (∀ (n : Nat) (l0 l1 : Option Value)  (r : List Value) (σ : zk_S) (sz k c : Nat), zk_run E (zk_VT E) M_X11_wayNow (C_X11_wayNow E) P PX K (n + 1) 5 [l0, l1] r (σ, sz, k, c) = zk_run E (zk_VT E) M_X11_wayNow (C_X11_wayNow E) P PX K n 7 [l0, l1] (.int ((-2)) :: r) (σ, sz, k, c)) ∧
  (∀ (n : Nat) (l0 l1 : Option Value) (x y : Int32) (r : List Value) (σ : zk_S) (sz k c : Nat), zk_run E (zk_VT E) M_X11_wayNow (C_X11_wayNow E) P PX K (n + 1) 7 [l0, l1] (.int y :: .int x :: r) (σ, sz, k, c) = ((x = y → zk_run E (zk_VT E) M_X11_wayNow (C_X11_wayNow E) P PX K n 21 [l0, l1] r (σ, sz, k, c)) ∧ (¬ (x = y) → zk_run E (zk_VT E) M_X11_wayNow (C_X11_wayNow E) P PX K n 10 [l0, l1] r (σ, sz, k, c)))) ∧
  (∀ (n : Nat) (l1 : Option Value) (y0 : Value) (r : List Value) (σ : zk_S) (sz k c : Nat), zk_run E (zk_VT E) M_X11_wayNow (C_X11_wayNow E) P PX K (n + 1) 10 [some y0, l1] r (σ, sz, k, c) = (zk_isr y0 ∧ zk_run E (zk_VT E) M_X11_wayNow (C_X11_wayNow E) P PX K n 11 [some y0, l1] (y0 :: r) (σ, sz, k, c))) ∧
  (∀ (n : Nat) (l0 l1 : Option Value) (a : Nat) (r : List Value) (σ : zk_S) (sz k c : Nat), zk_run E (zk_VT E) M_X11_wayNow (C_X11_wayNow E) P PX K (n + 1) 11 [l0, l1] (.ref a :: r) (σ, sz, k, c) = zk_fld (zk_view E σ a) [10] 29 (fun v => zk_run E (zk_VT E) M_X11_wayNow (C_X11_wayNow E) P PX K n 14 [l0, l1] (v :: r) (σ, sz, k, c))) ∧
  (∀ (n : Nat) (l0 : Option Value) (y1 : Int32) (r : List Value) (σ : zk_S) (sz k c : Nat), zk_run E (zk_VT E) M_X11_wayNow (C_X11_wayNow E) P PX K (n + 1) 14 [l0, some (.int y1)] r (σ, sz, k, c) = zk_run E (zk_VT E) M_X11_wayNow (C_X11_wayNow E) P PX K n 15 [l0, some (.int y1)] (.int y1 :: r) (σ, sz, k, c)) ∧
  (∀ (n : Nat) (l0 l1 : Option Value) (a : Nat) (i : Int32) (r : List Value) (σ : zk_S) (sz k c : Nat), zk_run E (zk_VT E) M_X11_wayNow (C_X11_wayNow E) P PX K (n + 1) 15 [l0, l1] (.int i :: .ref a :: r) (σ, sz, k, c) = zk_ild (zk_view E σ a) (zk_ar E 0) i (fun x => zk_run E (zk_VT E) M_X11_wayNow (C_X11_wayNow E) P PX K n 16 [l0, l1] (.int x :: r) (σ, sz, k, c))) ∧
  (∀ (n : Nat) (l0 l1 : Option Value)  (r : List Value) (σ : zk_S) (sz k c : Nat), zk_run E (zk_VT E) M_X11_wayNow (C_X11_wayNow E) P PX K (n + 1) 16 [l0, l1] r (σ, sz, k, c) = zk_run E (zk_VT E) M_X11_wayNow (C_X11_wayNow E) P PX K n 18 [l0, l1] (.int (268435456) :: r) (σ, sz, k, c)) ∧
  (∀ (n : Nat) (l0 l1 : Option Value) (x y : Int32) (r : List Value) (σ : zk_S) (sz k c : Nat), zk_run E (zk_VT E) M_X11_wayNow (C_X11_wayNow E) P PX K (n + 1) 18 [l0, l1] (.int y :: .int x :: r) (σ, sz, k, c) = ((¬ x = y → zk_run E (zk_VT E) M_X11_wayNow (C_X11_wayNow E) P PX K n 25 [l0, l1] r (σ, sz, k, c)) ∧ (¬ (¬ x = y) → zk_run E (zk_VT E) M_X11_wayNow (C_X11_wayNow E) P PX K n 21 [l0, l1] r (σ, sz, k, c)))) ∧
  (∀ (n : Nat) (l0 l1 : Option Value)  (r : List Value) (σ : zk_S) (sz k c : Nat), zk_run E (zk_VT E) M_X11_wayNow (C_X11_wayNow E) P PX K (n + 1) 21 [l0, l1] r (σ, sz, k, c) = zk_run E (zk_VT E) M_X11_wayNow (C_X11_wayNow E) P PX K n 22 [l0, l1] (.int ((-1)) :: r) (σ, sz, k, c)) ∧
  (∀ (n : Nat) (l0 l1 : Option Value)  (r : List Value) (σ : zk_S) (sz k c : Nat), zk_run E (zk_VT E) M_X11_wayNow (C_X11_wayNow E) P PX K (n + 1) 22 [l0, l1] r (σ, sz, k, c) = zk_run E (zk_VT E) M_X11_wayNow (C_X11_wayNow E) P PX K n 31 [l0, l1] r (σ, sz, k, c)) ∧
  (∀ (n : Nat) (l1 : Option Value) (y0 : Value) (r : List Value) (σ : zk_S) (sz k c : Nat), zk_run E (zk_VT E) M_X11_wayNow (C_X11_wayNow E) P PX K (n + 1) 25 [some y0, l1] r (σ, sz, k, c) = (zk_isr y0 ∧ zk_run E (zk_VT E) M_X11_wayNow (C_X11_wayNow E) P PX K n 26 [some y0, l1] (y0 :: r) (σ, sz, k, c))) ∧
  (∀ (n : Nat) (l0 l1 : Option Value) (a : Nat) (r : List Value) (σ : zk_S) (sz k c : Nat), zk_run E (zk_VT E) M_X11_wayNow (C_X11_wayNow E) P PX K (n + 1) 26 [l0, l1] (.ref a :: r) (σ, sz, k, c) = zk_fld (zk_view E σ a) [10] 29 (fun v => zk_run E (zk_VT E) M_X11_wayNow (C_X11_wayNow E) P PX K n 29 [l0, l1] (v :: r) (σ, sz, k, c))) ∧
  (∀ (n : Nat) (l0 : Option Value) (y1 : Int32) (r : List Value) (σ : zk_S) (sz k c : Nat), zk_run E (zk_VT E) M_X11_wayNow (C_X11_wayNow E) P PX K (n + 1) 29 [l0, some (.int y1)] r (σ, sz, k, c) = zk_run E (zk_VT E) M_X11_wayNow (C_X11_wayNow E) P PX K n 30 [l0, some (.int y1)] (.int y1 :: r) (σ, sz, k, c)) ∧
  (∀ (n : Nat) (l0 l1 : Option Value) (a : Nat) (i : Int32) (r : List Value) (σ : zk_S) (sz k c : Nat), zk_run E (zk_VT E) M_X11_wayNow (C_X11_wayNow E) P PX K (n + 1) 30 [l0, l1] (.int i :: .ref a :: r) (σ, sz, k, c) = zk_ild (zk_view E σ a) (zk_ar E 0) i (fun x => zk_run E (zk_VT E) M_X11_wayNow (C_X11_wayNow E) P PX K n 31 [l0, l1] (.int x :: r) (σ, sz, k, c))) ∧
  (∀ (n : Nat) (l0 l1 : Option Value) (x : Int32)  (σ : zk_S) (sz k c : Nat), zk_run E (zk_VT E) M_X11_wayNow (C_X11_wayNow E) P PX K (n + 1) 31 [l0, l1] [.int x] (σ, sz, k, c) = (zk_nok (some (.int)) x ∧ P (some (.int x)) σ sz ∧ k ≤ 0 ∧ c ≤ 0)) ∧
  (∀ (n : Nat) (l0 l1 : Option Value) (r : List Value) (w : zk_W zk_S), zk_go E (zk_VT E) M_X11_wayNow (C_X11_wayNow E) P PX K n 0 [l0, l1] r w = zk_run E (zk_VT E) M_X11_wayNow (C_X11_wayNow E) P PX K (n + 1) 0 [l0, l1] r w) := ⟨by intros; rfl, by intros; rfl, by intros; rfl, by intros; rfl, by intros; rfl, by intros; rfl, by intros; rfl, by intros; rfl, by intros; rfl, by intros; rfl, by intros; rfl, by intros; rfl, by intros; rfl, by intros; rfl, by intros; rfl, by intros; rfl, by intros; rfl, by intros; rfl, by intros; rfl⟩
theorem vc_X11_wayNow (E : zk_E) : zk_VC E (zk_VT E) M_X11_wayNow (C_X11_wayNow E) 2 (sp_X11_wayNow E) := by
  intro av σ sz P PX h
  obtain ⟨J, N, Q, O, U⟩ := σ
  unfold sp_X11_wayNow at h
  split at h
  case h_2 => exact h.elim
  rename_i a0 x
  obtain ⟨rfl, h⟩ := h
  refine ⟨Nat.le_of_ble_eq_true rfl, fun G hG => ?_⟩
  change G 0 [some (.ref (zk_ad E 22)), some (.int x)] [] ((J, N, Q, O, U), sz, 0, 0)
  try dsimp only at h
  obtain ⟨hms, hsv, ⟨e, he, rfl⟩, h⟩ := h
  have hin : vp_in (nI e) 100 := n_in he (by decide)
  have hcl : (nI e).toNatClampNeg = e := n_cl (by omega)
  rw [hcl] at h
  have hx3 : ∃ e1, e1 < 100 ∧ nI e = nI e1 := ⟨e, he, rfl⟩
  unfold a_way at h
  by_cases q : m_from J N e = -2
  · rw [if_pos (Or.inl q)] at h
    (refine hG 900 _ _ _ _ ?_; simp only [r_X11_wayNow, zk_kl_none, zk_kl_int, zk_kl_ref, zk_kl_null, zk_kl_long, zk_kl_rf, zk_isr_ref, zk_isr_null, zk_isr_rf9, zk_c1_int, zk_c1_ref, zk_c1_null, zk_c1_rf, zk_psh_some, zk_psh_none, zk_nok_int, zk_nok_bool0, zk_nok_bool1, zk_nok_b, zk_fok_0, zk_fok_1, zk_fok_2, zk_fok_n, zk_fok_rf, zb_f, zb_p, zb_i, zb_a, zb_s, zk_nth_0, zk_nth_s, zk_fld_o, zk_put_o, zk_rv_eq, zk_ri_eq, zk_is_o, List.mem_cons, List.not_mem_nil, or_false, false_or, or_true, true_or, and_true, true_and, not_false_iff, not_true_eq_false, true_implies, false_implies, imp_self, implies_true, forall_const, zk_lit, zk_uj_ap, zk_un_ap, zk_un_un, zk_uj_uj, Nat.reduceEqDiff, eq_self, zk_bq, Bool.true_or, Bool.false_or, Nat.le_refl, Nat.zero_add, Nat.add_zero, Nat.reduceAdd, Nat.reduceLeDiff, Nat.le_zero_eq, and_self, and_false, false_and, ite_true, ite_false, Nat.zero_le, List.length_cons, List.length_nil, Option.some.injEq, forall_eq', reduceCtorEq, spe_X11_from, hms, hx3, hcl, q])
    exact h
  · have hmem := m_act_mem.mpr ⟨he, q⟩
    have h47 := hsv.2.1 e hmem
    have hi := LL_le_INF (J := J) (N := N) e
    by_cases q2 : LL J N e = INF
    · rw [if_pos (Or.inr q2)] at h
      rw [q2] at h47
      have c2 : nI INF = 268435456 := rfl
      (refine hG 900 _ _ _ _ ?_; simp only [r_X11_wayNow, zk_kl_none, zk_kl_int, zk_kl_ref, zk_kl_null, zk_kl_long, zk_kl_rf, zk_isr_ref, zk_isr_null, zk_isr_rf9, zk_c1_int, zk_c1_ref, zk_c1_null, zk_c1_rf, zk_psh_some, zk_psh_none, zk_nok_int, zk_nok_bool0, zk_nok_bool1, zk_nok_b, zk_fok_0, zk_fok_1, zk_fok_2, zk_fok_n, zk_fok_rf, zb_f, zb_p, zb_i, zb_a, zb_s, zk_nth_0, zk_nth_s, zk_fld_o, zk_put_o, zk_rv_eq, zk_ri_eq, zk_is_o, List.mem_cons, List.not_mem_nil, or_false, false_or, or_true, true_or, and_true, true_and, not_false_iff, not_true_eq_false, true_implies, false_implies, imp_self, implies_true, forall_const, zk_lit, zk_uj_ap, zk_un_ap, zk_un_un, zk_uj_uj, Nat.reduceEqDiff, eq_self, zk_bq, Bool.true_or, Bool.false_or, Nat.le_refl, Nat.zero_add, Nat.add_zero, Nat.reduceAdd, Nat.reduceLeDiff, Nat.le_zero_eq, and_self, and_false, false_and, ite_true, ite_false, Nat.zero_le, List.length_cons, List.length_nil, Option.some.injEq, forall_eq', reduceCtorEq, spe_X11_from, hms, hx3, hcl, hin, q, h47, c2])
      exact h
    · rw [if_neg (fun w => w.elim q q2)] at h
      have c2 : ¬ nI (LL J N e) = 268435456 := by
        rw [show (268435456 : Int32) = nI INF from rfl, n_inj (by unfold INF at hi; omega) (by decide)]
        exact q2
      (refine hG 900 _ _ _ _ ?_; simp only [r_X11_wayNow, zk_kl_none, zk_kl_int, zk_kl_ref, zk_kl_null, zk_kl_long, zk_kl_rf, zk_isr_ref, zk_isr_null, zk_isr_rf9, zk_c1_int, zk_c1_ref, zk_c1_null, zk_c1_rf, zk_psh_some, zk_psh_none, zk_nok_int, zk_nok_bool0, zk_nok_bool1, zk_nok_b, zk_fok_0, zk_fok_1, zk_fok_2, zk_fok_n, zk_fok_rf, zb_f, zb_p, zb_i, zb_a, zb_s, zk_nth_0, zk_nth_s, zk_fld_o, zk_put_o, zk_rv_eq, zk_ri_eq, zk_is_o, List.mem_cons, List.not_mem_nil, or_false, false_or, or_true, true_or, and_true, true_and, not_false_iff, not_true_eq_false, true_implies, false_implies, imp_self, implies_true, forall_const, zk_lit, zk_uj_ap, zk_un_ap, zk_un_un, zk_uj_uj, Nat.reduceEqDiff, eq_self, zk_bq, Bool.true_or, Bool.false_or, Nat.le_refl, Nat.zero_add, Nat.add_zero, Nat.reduceAdd, Nat.reduceLeDiff, Nat.le_zero_eq, and_self, and_false, false_and, ite_true, ite_false, Nat.zero_le, List.length_cons, List.length_nil, Option.some.injEq, forall_eq', reduceCtorEq, spe_X11_from, hms, hx3, hcl, hin, q, h47, c2])
      exact h
theorem ct_X11_wayNow {l : Launch} (hl : l.stackTraces = false) (E : zk_E) : zk_C l E (zk_VT E) yX11_wayNow cX11_wayNow 2 (some (.int)) rm_X11_wayNow (sp_X11_wayNow E) := by
  refine zk_meth (M := M_X11_wayNow) (C := C_X11_wayNow E) hl (by decide +kernel) rfl (fun _ _ => rfl) (zk_VT_ok E) MO_X11_wayNow TO_X11_wayNow THo_X11_wayNow ?_ (vc_X11_wayNow E)
  exact fun p e s m args below meth c X pc n mc ms sp2 h => by
    have h2 := zk_lka_mem h
    simp only [List.mem_cons, List.not_mem_nil, or_false, Prod.mk.injEq] at h2
    rcases h2 with ⟨rfl, rfl, rfl, rfl, rfl⟩
    exact zk_coV (idx := 189) X (ct_X11_from hl E) (List.forall_mem_cons.mpr ⟨zk_wi 1235 (by decide +kernel) rfl, List.forall_mem_cons.mpr ⟨zk_wi 1237 (by decide +kernel) rfl, List.forall_mem_cons.mpr ⟨zk_wp 26 (by decide +kernel) rfl, List.forall_mem_cons.mpr ⟨zk_wi 6 (by decide +kernel) rfl, List.forall_mem_cons.mpr ⟨zk_wi 1238 (by decide +kernel) rfl, fun _ h => absurd h List.not_mem_nil⟩⟩⟩⟩⟩) (fun ci h => by
      have h := Nat.eq_of_beq_eq_true h
      subst h
      exact ⟨_, _, rfl⟩) (by decide +kernel) ⟨by decide, by decide, by decide +kernel⟩ ⟨by decide, by decide⟩
theorem MD.lt {J N : Nat → Nat → Int32} {d : Nat} (hms : MS J) (h : MD J N d) : d < 40 := Nat.lt_of_lt_of_le h.1 hms.2.1.2
theorem MT.lt {J N : Nat → Nat → Int32} {d : Nat} (hms : MS J) (h : MT J N d) : d < 10 := Nat.lt_of_lt_of_le h.1 hms.2.2.2.2
theorem ES.md {J J2 N N2 : Nat → Nat → Int32} (h : ES J J2 N N2) : MD J2 N2 = MD J N := by funext d; unfold MD; rw [h.nd, h.n (by decide)]
theorem ES.mt {J J2 N N2 : Nat → Nat → Int32} (h : ES J J2 N N2) : MT J2 N2 = MT J N := by funext d; unfold MT; rw [h.ns, h.n (by decide)]
def sp_X11_way (E : zk_E) : zk_Sp zk_S := fun av σ sz P PX => match av with
  | [.ref a, .int r, .int b] => a = zk_ad E 22 ∧ MI σ.1 σ.2.1 ∧ (b = 0 ∨ b = 1) ∧ DRD σ.1 σ.2.1 r (fun j => ∀ J2 N2, QE σ.1 J2 σ.2.1 N2 0 → P (some (.int (a_way σ.1 σ.2.1 (2 * j + b.toNatClampNeg)))) (J2, N2, σ.2.2) sz) (∀ J2 N2, QE σ.1 J2 σ.2.1 N2 1 → P (some (.int 0)) (J2, N2, σ.2.2) sz)
  | _ => False
theorem spe_X11_way (E : zk_E) (a : Nat) (r : Int32) (b : Int32) (σ : zk_S) (sz : Nat) (P : zk_P zk_S) (PX : zk_X zk_S) : sp_X11_way E [.ref a, .int r, .int b] σ sz P PX = (a = zk_ad E 22 ∧ MI σ.1 σ.2.1 ∧ (b = 0 ∨ b = 1) ∧ DRD σ.1 σ.2.1 r (fun j => ∀ J2 N2, QE σ.1 J2 σ.2.1 N2 0 → P (some (.int (a_way σ.1 σ.2.1 (2 * j + b.toNatClampNeg)))) (J2, N2, σ.2.2) sz) (∀ J2 N2, QE σ.1 J2 σ.2.1 N2 1 → P (some (.int 0)) (J2, N2, σ.2.2) sz)) := propext Iff.rfl
def C_X11_way (E : zk_E) : zk_Cl zk_S := zk_lka [(7, 2, 0, 0, zk_rv (zk_VT E) (fun ci => Nat.beq ci 10) (sp_X11_isDoor E)), (15, 2, 0, 0, zk_rv (zk_VT E) (fun ci => Nat.beq ci 10) (sp_X11_no E)), (20, 1, 0, 0, zk_rv (zk_VT E) (fun ci => Nat.beq ci 10) (sp_X11_solve E)), (37, 2, 0, 0, zk_rv (zk_VT E) (fun ci => Nat.beq ci 10) (sp_X11_wayNow E))]
theorem r_X11_way (E : zk_E) (P : zk_P zk_S) (PX : zk_X zk_S) (K : Nat → zk_L → List Value → zk_W zk_S → Prop) : (∀ (n : Nat) (l1 l2 : Option Value) (y0 : Value) (r : List Value) (σ : zk_S) (sz k c : Nat), zk_run E (zk_VT E) M_X11_way (C_X11_way E) P PX K (n + 1) 0 [some y0, l1, l2] r (σ, sz, k, c) = (zk_isr y0 ∧ zk_run E (zk_VT E) M_X11_way (C_X11_way E) P PX K n 1 [some y0, l1, l2] (y0 :: r) (σ, sz, k, c))) ∧
  (∀ (n : Nat) (l0 l1 l2 : Option Value)  (r : List Value) (σ : zk_S) (sz k c : Nat), zk_run E (zk_VT E) M_X11_way (C_X11_way E) P PX K (n + 1) 1 [l0, l1, l2] r (σ, sz, k, c) = zk_run E (zk_VT E) M_X11_way (C_X11_way E) P PX K n 2 [l0, l1, l2] (.int (0) :: r) (σ, sz, k, c)) ∧
  (∀ (n : Nat) (l0 l1 l2 : Option Value) (a : Nat) (v : Value) (r : List Value) (σ : zk_S) (sz k c : Nat), zk_run E (zk_VT E) M_X11_way (C_X11_way E) P PX K (n + 1) 2 [l0, l1, l2] (v :: .ref a :: r) (σ, sz, k, c) = zk_put (zk_view E σ a) [10] 0 0 v (zk_pfok E σ a 0 v ∧ zk_run E (zk_VT E) M_X11_way (C_X11_way E) P PX K n 5 [l0, l1, l2] r (zk_pf E σ a 0 v, sz, k, c))) ∧
  (∀ (n : Nat) (l1 l2 : Option Value) (y0 : Value) (r : List Value) (σ : zk_S) (sz k c : Nat), zk_run E (zk_VT E) M_X11_way (C_X11_way E) P PX K (n + 1) 5 [some y0, l1, l2] r (σ, sz, k, c) = (zk_isr y0 ∧ zk_run E (zk_VT E) M_X11_way (C_X11_way E) P PX K n 6 [some y0, l1, l2] (y0 :: r) (σ, sz, k, c))) ∧
  (∀ (n : Nat) (l0 l2 : Option Value) (y1 : Int32) (r : List Value) (σ : zk_S) (sz k c : Nat), zk_run E (zk_VT E) M_X11_way (C_X11_way E) P PX K (n + 1) 6 [l0, some (.int y1), l2] r (σ, sz, k, c) = zk_run E (zk_VT E) M_X11_way (C_X11_way E) P PX K n 7 [l0, some (.int y1), l2] (.int y1 :: r) (σ, sz, k, c)) ∧
  (∀ (n : Nat) (l0 l1 l2 : Option Value) (v0 : Value) (v1 : Value)  (σ : zk_S) (sz k c : Nat), zk_run E (zk_VT E) M_X11_way (C_X11_way E) P PX K (n + 1) 7 [l0, l1, l2] [v0, v1] (σ, sz, k, c) = (k + 0 ≤ 0 ∧ c + 0 ≤ 0 ∧ (zk_rv (zk_VT E) (fun ci => Nat.beq ci 10) (sp_X11_isDoor E)) [v1, v0] σ sz (fun v s2 z2 => zk_run E (zk_VT E) M_X11_way (C_X11_way E) P PX K n 10 [l0, l1, l2] (zk_psh v []) (s2, z2, k + 0, c + 0)) (fun X s2 z2 => PX X s2 z2))) ∧
  (∀ (n : Nat) (l0 l1 l2 : Option Value) (x : Int32) (r : List Value) (σ : zk_S) (sz k c : Nat), zk_run E (zk_VT E) M_X11_way (C_X11_way E) P PX K (n + 1) 10 [l0, l1, l2] (.int x :: r) (σ, sz, k, c) = ((¬ x = 0 → zk_run E (zk_VT E) M_X11_way (C_X11_way E) P PX K n 19 [l0, l1, l2] r (σ, sz, k, c)) ∧ (¬ (¬ x = 0) → zk_run E (zk_VT E) M_X11_way (C_X11_way E) P PX K n 13 [l0, l1, l2] r (σ, sz, k, c)))) ∧
  (∀ (n : Nat) (l1 l2 : Option Value) (y0 : Value) (r : List Value) (σ : zk_S) (sz k c : Nat), zk_run E (zk_VT E) M_X11_way (C_X11_way E) P PX K (n + 1) 13 [some y0, l1, l2] r (σ, sz, k, c) = (zk_isr y0 ∧ zk_run E (zk_VT E) M_X11_way (C_X11_way E) P PX K n 14 [some y0, l1, l2] (y0 :: r) (σ, sz, k, c))) ∧
  (∀ (n : Nat) (l0 l1 l2 : Option Value)  (r : List Value) (σ : zk_S) (sz k c : Nat), zk_run E (zk_VT E) M_X11_way (C_X11_way E) P PX K (n + 1) 14 [l0, l1, l2] r (σ, sz, k, c) = zk_run E (zk_VT E) M_X11_way (C_X11_way E) P PX K n 15 [l0, l1, l2] (.int (1) :: r) (σ, sz, k, c)) ∧
  (∀ (n : Nat) (l0 l1 l2 : Option Value) (v0 : Value) (v1 : Value)  (σ : zk_S) (sz k c : Nat), zk_run E (zk_VT E) M_X11_way (C_X11_way E) P PX K (n + 1) 15 [l0, l1, l2] [v0, v1] (σ, sz, k, c) = (k + 0 ≤ 0 ∧ c + 0 ≤ 0 ∧ (zk_rv (zk_VT E) (fun ci => Nat.beq ci 10) (sp_X11_no E)) [v1, v0] σ sz (fun v s2 z2 => zk_run E (zk_VT E) M_X11_way (C_X11_way E) P PX K n 18 [l0, l1, l2] (zk_psh v []) (s2, z2, k + 0, c + 0)) (fun X s2 z2 => PX X s2 z2))) ∧
  (∀ (n : Nat) (l0 l1 l2 : Option Value) (x : Int32)  (σ : zk_S) (sz k c : Nat), zk_run E (zk_VT E) M_X11_way (C_X11_way E) P PX K (n + 1) 18 [l0, l1, l2] [.int x] (σ, sz, k, c) = (zk_nok (some (.int)) x ∧ P (some (.int x)) σ sz ∧ k ≤ 0 ∧ c ≤ 0)) ∧
  (∀ (n : Nat) (l1 l2 : Option Value) (y0 : Value) (r : List Value) (σ : zk_S) (sz k c : Nat), zk_run E (zk_VT E) M_X11_way (C_X11_way E) P PX K (n + 1) 19 [some y0, l1, l2] r (σ, sz, k, c) = (zk_isr y0 ∧ zk_run E (zk_VT E) M_X11_way (C_X11_way E) P PX K n 20 [some y0, l1, l2] (y0 :: r) (σ, sz, k, c))) ∧
  (∀ (n : Nat) (l0 l1 l2 : Option Value) (v0 : Value)  (σ : zk_S) (sz k c : Nat), zk_run E (zk_VT E) M_X11_way (C_X11_way E) P PX K (n + 1) 20 [l0, l1, l2] [v0] (σ, sz, k, c) = (k + 0 ≤ 0 ∧ c + 0 ≤ 0 ∧ (zk_rv (zk_VT E) (fun ci => Nat.beq ci 10) (sp_X11_solve E)) [v0] σ sz (fun v s2 z2 => zk_run E (zk_VT E) M_X11_way (C_X11_way E) P PX K n 23 [l0, l1, l2] (zk_psh v []) (s2, z2, k + 0, c + 0)) (fun X s2 z2 => PX X s2 z2))) ∧
  (∀ (n : Nat) (l1 l2 : Option Value) (y0 : Value) (r : List Value) (σ : zk_S) (sz k c : Nat), zk_run E (zk_VT E) M_X11_way (C_X11_way E) P PX K (n + 1) 23 [some y0, l1, l2] r (σ, sz, k, c) = (zk_isr y0 ∧ zk_run E (zk_VT E) M_X11_way (C_X11_way E) P PX K n 24 [some y0, l1, l2] (y0 :: r) (σ, sz, k, c))) ∧
  (∀ (n : Nat) (l0 l1 l2 : Option Value)  (r : List Value) (σ : zk_S) (sz k c : Nat), zk_run E (zk_VT E) M_X11_way (C_X11_way E) P PX K (n + 1) 24 [l0, l1, l2] r (σ, sz, k, c) = zk_run E (zk_VT E) M_X11_way (C_X11_way E) P PX K n 25 [l0, l1, l2] (.int (2) :: r) (σ, sz, k, c)) ∧
  (∀ (n : Nat) (l0 l2 : Option Value) (y1 : Int32) (r : List Value) (σ : zk_S) (sz k c : Nat), zk_run E (zk_VT E) M_X11_way (C_X11_way E) P PX K (n + 1) 25 [l0, some (.int y1), l2] r (σ, sz, k, c) = zk_run E (zk_VT E) M_X11_way (C_X11_way E) P PX K n 26 [l0, some (.int y1), l2] (.int y1 :: r) (σ, sz, k, c)) ∧
  (∀ (n : Nat) (l0 l1 l2 : Option Value) (x y : Int32) (r : List Value) (σ : zk_S) (sz k c : Nat), zk_run E (zk_VT E) M_X11_way (C_X11_way E) P PX K (n + 1) 26 [l0, l1, l2] (.int y :: .int x :: r) (σ, sz, k, c) = zk_run E (zk_VT E) M_X11_way (C_X11_way E) P PX K n 27 [l0, l1, l2] (.int (x * y) :: r) (σ, sz, k, c)) ∧
  (∀ (n : Nat) (l0 l1 : Option Value) (y2 : Int32) (r : List Value) (σ : zk_S) (sz k c : Nat), zk_run E (zk_VT E) M_X11_way (C_X11_way E) P PX K (n + 1) 27 [l0, l1, some (.int y2)] r (σ, sz, k, c) = zk_run E (zk_VT E) M_X11_way (C_X11_way E) P PX K n 28 [l0, l1, some (.int y2)] (.int y2 :: r) (σ, sz, k, c)) ∧
  (∀ (n : Nat) (l0 l1 l2 : Option Value) (x : Int32) (r : List Value) (σ : zk_S) (sz k c : Nat), zk_run E (zk_VT E) M_X11_way (C_X11_way E) P PX K (n + 1) 28 [l0, l1, l2] (.int x :: r) (σ, sz, k, c) = ((x = 0 → zk_run E (zk_VT E) M_X11_way (C_X11_way E) P PX K n 35 [l0, l1, l2] r (σ, sz, k, c)) ∧ (¬ (x = 0) → zk_run E (zk_VT E) M_X11_way (C_X11_way E) P PX K n 31 [l0, l1, l2] r (σ, sz, k, c)))) ∧
  (∀ (n : Nat) (l0 l1 l2 : Option Value)  (r : List Value) (σ : zk_S) (sz k c : Nat), zk_run E (zk_VT E) M_X11_way (C_X11_way E) P PX K (n + 1) 31 [l0, l1, l2] r (σ, sz, k, c) = zk_run E (zk_VT E) M_X11_way (C_X11_way E) P PX K n 32 [l0, l1, l2] (.int (1) :: r) (σ, sz, k, c)) ∧
  (∀ (n : Nat) (l0 l1 l2 : Option Value)  (r : List Value) (σ : zk_S) (sz k c : Nat), zk_run E (zk_VT E) M_X11_way (C_X11_way E) P PX K (n + 1) 32 [l0, l1, l2] r (σ, sz, k, c) = zk_run E (zk_VT E) M_X11_way (C_X11_way E) P PX K n 36 [l0, l1, l2] r (σ, sz, k, c)) ∧
  (∀ (n : Nat) (l0 l1 l2 : Option Value)  (r : List Value) (σ : zk_S) (sz k c : Nat), zk_run E (zk_VT E) M_X11_way (C_X11_way E) P PX K (n + 1) 35 [l0, l1, l2] r (σ, sz, k, c) = zk_run E (zk_VT E) M_X11_way (C_X11_way E) P PX K n 36 [l0, l1, l2] (.int (0) :: r) (σ, sz, k, c)) ∧
  (∀ (n : Nat) (l0 l1 l2 : Option Value) (x y : Int32) (r : List Value) (σ : zk_S) (sz k c : Nat), zk_run E (zk_VT E) M_X11_way (C_X11_way E) P PX K (n + 1) 36 [l0, l1, l2] (.int y :: .int x :: r) (σ, sz, k, c) = zk_run E (zk_VT E) M_X11_way (C_X11_way E) P PX K n 37 [l0, l1, l2] (.int (x + y) :: r) (σ, sz, k, c)) ∧
  (∀ (n : Nat) (l0 l1 l2 : Option Value) (v0 : Value) (v1 : Value)  (σ : zk_S) (sz k c : Nat), zk_run E (zk_VT E) M_X11_way (C_X11_way E) P PX K (n + 1) 37 [l0, l1, l2] [v0, v1] (σ, sz, k, c) = (k + 0 ≤ 0 ∧ c + 0 ≤ 0 ∧ (zk_rv (zk_VT E) (fun ci => Nat.beq ci 10) (sp_X11_wayNow E)) [v1, v0] σ sz (fun v s2 z2 => zk_run E (zk_VT E) M_X11_way (C_X11_way E) P PX K n 40 [l0, l1, l2] (zk_psh v []) (s2, z2, k + 0, c + 0)) (fun X s2 z2 => PX X s2 z2))) ∧
  (∀ (n : Nat) (l0 l1 l2 : Option Value) (x : Int32)  (σ : zk_S) (sz k c : Nat), zk_run E (zk_VT E) M_X11_way (C_X11_way E) P PX K (n + 1) 40 [l0, l1, l2] [.int x] (σ, sz, k, c) = (zk_nok (some (.int)) x ∧ P (some (.int x)) σ sz ∧ k ≤ 0 ∧ c ≤ 0)) ∧
  (∀ (n : Nat) (l0 l1 l2 : Option Value) (r : List Value) (w : zk_W zk_S), zk_go E (zk_VT E) M_X11_way (C_X11_way E) P PX K n 0 [l0, l1, l2] r w = zk_run E (zk_VT E) M_X11_way (C_X11_way E) P PX K (n + 1) 0 [l0, l1, l2] r w) := ⟨by intros; rfl, by intros; rfl, by intros; rfl, by intros; rfl, by intros; rfl, by intros; rfl, by intros; rfl, by intros; rfl, by intros; rfl, by intros; rfl, by intros; rfl, by intros; rfl, by intros; rfl, by intros; rfl, by intros; rfl, by intros; rfl, by intros; rfl, by intros; rfl, by intros; rfl, by intros; rfl, by intros; rfl, by intros; rfl, by intros; rfl, by intros; rfl, by intros; rfl, by intros; rfl⟩
theorem vc_X11_way (E : zk_E) : zk_VC E (zk_VT E) M_X11_way (C_X11_way E) 3 (sp_X11_way E) := by
  intro av σ sz P PX h
  obtain ⟨J, N, Q, O, U⟩ := σ
  unfold sp_X11_way at h
  split at h
  case h_2 => exact h.elim
  rename_i a0 r b
  obtain ⟨rfl, h⟩ := h
  refine ⟨Nat.le_of_ble_eq_true rfl, fun G hG => ?_⟩
  change G 0 [some (.ref (zk_ad E 22)), some (.int r), some (.int b)] [] ((J, N, Q, O, U), sz, 0, 0)
  try dsimp only at h
  obtain ⟨hmi, hb, h⟩ := h
  have hms := hmi.1
  have hms0 := hms.thr 0
  rcases h with ⟨j, hj, rfl, h⟩ | ⟨hr, h⟩
  · have c1 := m_isDoor_t hms hj
    have hj40 := hj.lt hms
    (refine hG 900 _ _ _ _ ?_; simp only [r_X11_way, zk_kl_none, zk_kl_int, zk_kl_ref, zk_kl_null, zk_kl_long, zk_kl_rf, zk_isr_ref, zk_isr_null, zk_isr_rf9, zk_c1_int, zk_c1_ref, zk_c1_null, zk_c1_rf, zk_psh_some, zk_psh_none, zk_nok_int, zk_nok_bool0, zk_nok_bool1, zk_nok_b, zk_fok_0, zk_fok_1, zk_fok_2, zk_fok_n, zk_fok_rf, zb_f, zb_p, zb_i, zb_a, zb_s, zk_nth_0, zk_nth_s, zk_fld_o, zk_put_o, zk_rv_eq, zk_ri_eq, zk_is_o, List.mem_cons, List.not_mem_nil, or_false, false_or, or_true, true_or, and_true, true_and, not_false_iff, not_true_eq_false, true_implies, false_implies, imp_self, implies_true, forall_const, zk_lit, zk_uj_ap, zk_un_ap, zk_un_un, zk_uj_uj, Nat.reduceEqDiff, eq_self, zk_bq, Bool.true_or, Bool.false_or, Nat.le_refl, Nat.zero_add, Nat.add_zero, Nat.reduceAdd, Nat.reduceLeDiff, Nat.le_zero_eq, and_self, and_false, false_and, ite_true, ite_false, Nat.zero_le, List.length_cons, List.length_nil, Option.some.injEq, forall_eq', reduceCtorEq, spe_X11_isDoor, hms0, m_isDoor_thr, c1, zk_b0, Bool.true_eq_false, spe_X11_solve])
    refine ⟨hmi.thr 0, fun J2 N2 hso => ?_⟩
    have qe := (QE.thr J N 0).so hso
    have hms2 := qe.es.ms hms
    have hsv := hso.sv
    rcases hb with rfl | rfl
    · have e1 : (2 : Int32) * nI j + 0 = nI (2 * j) := by rw [show (2 : Int32) = nI 2 from rfl, n_mul, show (0 : Int32) = nI 0 from rfl, n_add]; rfl
      simp only [r_X11_way, zk_kl_none, zk_kl_int, zk_kl_ref, zk_kl_null, zk_kl_long, zk_kl_rf, zk_isr_ref, zk_isr_null, zk_isr_rf9, zk_c1_int, zk_c1_ref, zk_c1_null, zk_c1_rf, zk_psh_some, zk_psh_none, zk_nok_int, zk_nok_bool0, zk_nok_bool1, zk_nok_b, zk_fok_0, zk_fok_1, zk_fok_2, zk_fok_n, zk_fok_rf, zb_f, zb_p, zb_i, zb_a, zb_s, zk_nth_0, zk_nth_s, zk_fld_o, zk_put_o, zk_rv_eq, zk_ri_eq, zk_is_o, List.mem_cons, List.not_mem_nil, or_false, false_or, or_true, true_or, and_true, true_and, not_false_iff, not_true_eq_false, true_implies, false_implies, imp_self, implies_true, forall_const, zk_lit, zk_uj_ap, zk_un_ap, zk_un_un, zk_uj_uj, Nat.reduceEqDiff, eq_self, zk_bq, Bool.true_or, Bool.false_or, Nat.le_refl, Nat.zero_add, Nat.add_zero, Nat.reduceAdd, Nat.reduceLeDiff, Nat.le_zero_eq, and_self, and_false, false_and, ite_true, ite_false, Nat.zero_le, List.length_cons, List.length_nil, Option.some.injEq, forall_eq', reduceCtorEq, spe_X11_wayNow, e1]
      refine ⟨hms2, hsv, ⟨2 * j, by omega, rfl⟩, ?_⟩
      rw [n_cl (by omega), qe.es.a5]
      exact h J2 N2 qe
    · have e1 : (2 : Int32) * nI j + 1 = nI (2 * j + 1) := by rw [show (2 : Int32) = nI 2 from rfl, n_mul, show (1 : Int32) = nI 1 from rfl, n_add]
      simp only [r_X11_way, zk_kl_none, zk_kl_int, zk_kl_ref, zk_kl_null, zk_kl_long, zk_kl_rf, zk_isr_ref, zk_isr_null, zk_isr_rf9, zk_c1_int, zk_c1_ref, zk_c1_null, zk_c1_rf, zk_psh_some, zk_psh_none, zk_nok_int, zk_nok_bool0, zk_nok_bool1, zk_nok_b, zk_fok_0, zk_fok_1, zk_fok_2, zk_fok_n, zk_fok_rf, zb_f, zb_p, zb_i, zb_a, zb_s, zk_nth_0, zk_nth_s, zk_fld_o, zk_put_o, zk_rv_eq, zk_ri_eq, zk_is_o, List.mem_cons, List.not_mem_nil, or_false, false_or, or_true, true_or, and_true, true_and, not_false_iff, not_true_eq_false, true_implies, false_implies, imp_self, implies_true, forall_const, zk_lit, zk_uj_ap, zk_un_ap, zk_un_un, zk_uj_uj, Nat.reduceEqDiff, eq_self, zk_bq, Bool.true_or, Bool.false_or, Nat.le_refl, Nat.zero_add, Nat.add_zero, Nat.reduceAdd, Nat.reduceLeDiff, Nat.le_zero_eq, and_self, and_false, false_and, ite_true, ite_false, Nat.zero_le, List.length_cons, List.length_nil, Option.some.injEq, forall_eq', reduceCtorEq, spe_X11_wayNow, e1]
      refine ⟨hms2, hsv, ⟨2 * j + 1, by omega, rfl⟩, ?_⟩
      rw [n_cl (by omega), qe.es.a5]
      exact h J2 N2 qe
  · (refine hG 900 _ _ _ _ ?_; simp only [r_X11_way, zk_kl_none, zk_kl_int, zk_kl_ref, zk_kl_null, zk_kl_long, zk_kl_rf, zk_isr_ref, zk_isr_null, zk_isr_rf9, zk_c1_int, zk_c1_ref, zk_c1_null, zk_c1_rf, zk_psh_some, zk_psh_none, zk_nok_int, zk_nok_bool0, zk_nok_bool1, zk_nok_b, zk_fok_0, zk_fok_1, zk_fok_2, zk_fok_n, zk_fok_rf, zb_f, zb_p, zb_i, zb_a, zb_s, zk_nth_0, zk_nth_s, zk_fld_o, zk_put_o, zk_rv_eq, zk_ri_eq, zk_is_o, List.mem_cons, List.not_mem_nil, or_false, false_or, or_true, true_or, and_true, true_and, not_false_iff, not_true_eq_false, true_implies, false_implies, imp_self, implies_true, forall_const, zk_lit, zk_uj_ap, zk_un_ap, zk_un_un, zk_uj_uj, Nat.reduceEqDiff, eq_self, zk_bq, Bool.true_or, Bool.false_or, Nat.le_refl, Nat.zero_add, Nat.add_zero, Nat.reduceAdd, Nat.reduceLeDiff, Nat.le_zero_eq, and_self, and_false, false_and, ite_true, ite_false, Nat.zero_le, List.length_cons, List.length_nil, Option.some.injEq, forall_eq', reduceCtorEq, spe_X11_isDoor, hms0, m_isDoor_thr, hr, zk_b0, spe_X11_no])
    exact h _ _ (QE.thr J N 1)
theorem ct_X11_way {l : Launch} (hl : l.stackTraces = false) (E : zk_E) : zk_C l E (zk_VT E) yX11_way cX11_way 3 (some (.int)) rm_X11_way (sp_X11_way E) := by
  refine zk_meth (M := M_X11_way) (C := C_X11_way E) hl (by decide +kernel) rfl (fun _ _ => rfl) (zk_VT_ok E) MO_X11_way TO_X11_way THo_X11_way ?_ (vc_X11_way E)
  exact fun p e s m args below meth c X pc n mc ms sp2 h => by
    have h2 := zk_lka_mem h
    simp only [List.mem_cons, List.not_mem_nil, or_false, Prod.mk.injEq] at h2
    rcases h2 with ⟨rfl, rfl, rfl, rfl, rfl⟩ | ⟨rfl, rfl, rfl, rfl, rfl⟩ | ⟨rfl, rfl, rfl, rfl, rfl⟩ | ⟨rfl, rfl, rfl, rfl, rfl⟩
    · exact zk_coV (idx := 167) X (ct_X11_isDoor hl E) (List.forall_mem_cons.mpr ⟨zk_wi 1171 (by decide +kernel) rfl, List.forall_mem_cons.mpr ⟨zk_wi 1173 (by decide +kernel) rfl, List.forall_mem_cons.mpr ⟨zk_wp 18 (by decide +kernel) rfl, List.forall_mem_cons.mpr ⟨zk_wi 6 (by decide +kernel) rfl, List.forall_mem_cons.mpr ⟨zk_wi 1174 (by decide +kernel) rfl, fun _ h => absurd h List.not_mem_nil⟩⟩⟩⟩⟩) (fun ci h => by
      have h := Nat.eq_of_beq_eq_true h
      subst h
      exact ⟨_, _, rfl⟩) (by decide +kernel) ⟨by decide, by decide, by decide +kernel⟩ ⟨by decide, by decide⟩
    · exact zk_coV (idx := 130) X (ct_X11_no hl E) (List.forall_mem_cons.mpr ⟨zk_wi 1108 (by decide +kernel) rfl, List.forall_mem_cons.mpr ⟨zk_wi 1110 (by decide +kernel) rfl, List.forall_mem_cons.mpr ⟨zk_wp 11 (by decide +kernel) rfl, List.forall_mem_cons.mpr ⟨zk_wi 6 (by decide +kernel) rfl, List.forall_mem_cons.mpr ⟨zk_wi 1111 (by decide +kernel) rfl, fun _ h => absurd h List.not_mem_nil⟩⟩⟩⟩⟩) (fun ci h => by
      have h := Nat.eq_of_beq_eq_true h
      subst h
      exact ⟨_, _, rfl⟩) (by decide +kernel) ⟨by decide, by decide, by decide +kernel⟩ ⟨by decide, by decide⟩
    · exact zk_coV (idx := 227) X (ct_X11_solve hl E) (List.forall_mem_cons.mpr ⟨zk_wi 1227 (by decide +kernel) rfl, List.forall_mem_cons.mpr ⟨zk_wi 1229 (by decide +kernel) rfl, List.forall_mem_cons.mpr ⟨zk_wp 24 (by decide +kernel) rfl, List.forall_mem_cons.mpr ⟨zk_wi 6 (by decide +kernel) rfl, List.forall_mem_cons.mpr ⟨zk_wi 1230 (by decide +kernel) rfl, fun _ h => absurd h List.not_mem_nil⟩⟩⟩⟩⟩) (fun ci h => by
      have h := Nat.eq_of_beq_eq_true h
      subst h
      exact ⟨_, _, rfl⟩) (by decide +kernel) ⟨by decide, by decide, by decide +kernel⟩ ⟨by decide, by decide⟩
    · exact zk_coV (idx := 245) X (ct_X11_wayNow hl E) (List.forall_mem_cons.mpr ⟨zk_wi 1313 (by decide +kernel) rfl, List.forall_mem_cons.mpr ⟨zk_wi 1315 (by decide +kernel) rfl, List.forall_mem_cons.mpr ⟨zk_wp 40 (by decide +kernel) rfl, List.forall_mem_cons.mpr ⟨zk_wi 6 (by decide +kernel) rfl, List.forall_mem_cons.mpr ⟨zk_wi 1316 (by decide +kernel) rfl, fun _ h => absurd h List.not_mem_nil⟩⟩⟩⟩⟩) (fun ci h => by
      have h := Nat.eq_of_beq_eq_true h
      subst h
      exact ⟨_, _, rfl⟩) (by decide +kernel) ⟨by decide, by decide, by decide +kernel⟩ ⟨by decide, by decide⟩

