/-! the reference's leaves -/
theorem zk_b0 (b : Bool) : (zk_b b = 0) = (b = false) := by cases b <;> simp [zk_b]
theorem zk_bt : zk_b true = 1 := rfl
theorem zk_bf : zk_b false = 0 := rfl
def m_isIn (v lo hi : Int32) : Bool := decide (lo ≤ v ∧ v ≤ hi)
def sp_X11_isIn (_ : zk_E) : zk_Sp zk_S := fun av σ sz P _ => match av with
  | [.int v, .int lo, .int hi] => P (some (.int (zk_b (m_isIn v lo hi)))) σ sz
  | _ => False
def C_X11_isIn (E : zk_E) : zk_Cl zk_S := zk_lka []
theorem r_X11_isIn (E : zk_E) (P : zk_P zk_S) (PX : zk_X zk_S) (K : Nat → zk_L → List Value → zk_W zk_S → Prop) : (∀ (n : Nat) (l1 l2 : Option Value) (y0 : Int32) (r : List Value) (σ : zk_S) (sz k c : Nat), zk_run E (zk_VT E) M_X11_isIn (C_X11_isIn E) P PX K (n + 1) 0 [some (.int y0), l1, l2] r (σ, sz, k, c) = zk_run E (zk_VT E) M_X11_isIn (C_X11_isIn E) P PX K n 1 [some (.int y0), l1, l2] (.int y0 :: r) (σ, sz, k, c)) ∧
  (∀ (n : Nat) (l0 l2 : Option Value) (y1 : Int32) (r : List Value) (σ : zk_S) (sz k c : Nat), zk_run E (zk_VT E) M_X11_isIn (C_X11_isIn E) P PX K (n + 1) 1 [l0, some (.int y1), l2] r (σ, sz, k, c) = zk_run E (zk_VT E) M_X11_isIn (C_X11_isIn E) P PX K n 2 [l0, some (.int y1), l2] (.int y1 :: r) (σ, sz, k, c)) ∧
  (∀ (n : Nat) (l0 l1 l2 : Option Value) (x y : Int32) (r : List Value) (σ : zk_S) (sz k c : Nat), zk_run E (zk_VT E) M_X11_isIn (C_X11_isIn E) P PX K (n + 1) 2 [l0, l1, l2] (.int y :: .int x :: r) (σ, sz, k, c) = ((x < y → zk_run E (zk_VT E) M_X11_isIn (C_X11_isIn E) P PX K n 14 [l0, l1, l2] r (σ, sz, k, c)) ∧ (¬ (x < y) → zk_run E (zk_VT E) M_X11_isIn (C_X11_isIn E) P PX K n 5 [l0, l1, l2] r (σ, sz, k, c)))) ∧
  (∀ (n : Nat) (l1 l2 : Option Value) (y0 : Int32) (r : List Value) (σ : zk_S) (sz k c : Nat), zk_run E (zk_VT E) M_X11_isIn (C_X11_isIn E) P PX K (n + 1) 5 [some (.int y0), l1, l2] r (σ, sz, k, c) = zk_run E (zk_VT E) M_X11_isIn (C_X11_isIn E) P PX K n 6 [some (.int y0), l1, l2] (.int y0 :: r) (σ, sz, k, c)) ∧
  (∀ (n : Nat) (l0 l1 : Option Value) (y2 : Int32) (r : List Value) (σ : zk_S) (sz k c : Nat), zk_run E (zk_VT E) M_X11_isIn (C_X11_isIn E) P PX K (n + 1) 6 [l0, l1, some (.int y2)] r (σ, sz, k, c) = zk_run E (zk_VT E) M_X11_isIn (C_X11_isIn E) P PX K n 7 [l0, l1, some (.int y2)] (.int y2 :: r) (σ, sz, k, c)) ∧
  (∀ (n : Nat) (l0 l1 l2 : Option Value) (x y : Int32) (r : List Value) (σ : zk_S) (sz k c : Nat), zk_run E (zk_VT E) M_X11_isIn (C_X11_isIn E) P PX K (n + 1) 7 [l0, l1, l2] (.int y :: .int x :: r) (σ, sz, k, c) = ((y < x → zk_run E (zk_VT E) M_X11_isIn (C_X11_isIn E) P PX K n 14 [l0, l1, l2] r (σ, sz, k, c)) ∧ (¬ (y < x) → zk_run E (zk_VT E) M_X11_isIn (C_X11_isIn E) P PX K n 10 [l0, l1, l2] r (σ, sz, k, c)))) ∧
  (∀ (n : Nat) (l0 l1 l2 : Option Value)  (r : List Value) (σ : zk_S) (sz k c : Nat), zk_run E (zk_VT E) M_X11_isIn (C_X11_isIn E) P PX K (n + 1) 10 [l0, l1, l2] r (σ, sz, k, c) = zk_run E (zk_VT E) M_X11_isIn (C_X11_isIn E) P PX K n 11 [l0, l1, l2] (.int (1) :: r) (σ, sz, k, c)) ∧
  (∀ (n : Nat) (l0 l1 l2 : Option Value)  (r : List Value) (σ : zk_S) (sz k c : Nat), zk_run E (zk_VT E) M_X11_isIn (C_X11_isIn E) P PX K (n + 1) 11 [l0, l1, l2] r (σ, sz, k, c) = zk_run E (zk_VT E) M_X11_isIn (C_X11_isIn E) P PX K n 15 [l0, l1, l2] r (σ, sz, k, c)) ∧
  (∀ (n : Nat) (l0 l1 l2 : Option Value)  (r : List Value) (σ : zk_S) (sz k c : Nat), zk_run E (zk_VT E) M_X11_isIn (C_X11_isIn E) P PX K (n + 1) 14 [l0, l1, l2] r (σ, sz, k, c) = zk_run E (zk_VT E) M_X11_isIn (C_X11_isIn E) P PX K n 15 [l0, l1, l2] (.int (0) :: r) (σ, sz, k, c)) ∧
  (∀ (n : Nat) (l0 l1 l2 : Option Value) (x : Int32)  (σ : zk_S) (sz k c : Nat), zk_run E (zk_VT E) M_X11_isIn (C_X11_isIn E) P PX K (n + 1) 15 [l0, l1, l2] [.int x] (σ, sz, k, c) = (zk_nok (some (.boolean)) x ∧ P (some (.int x)) σ sz ∧ k ≤ 0 ∧ c ≤ 0)) ∧
  (∀ (n : Nat) (l0 l1 l2 : Option Value) (r : List Value) (w : zk_W zk_S), zk_go E (zk_VT E) M_X11_isIn (C_X11_isIn E) P PX K n 0 [l0, l1, l2] r w = zk_run E (zk_VT E) M_X11_isIn (C_X11_isIn E) P PX K (n + 1) 0 [l0, l1, l2] r w) := ⟨by intros; rfl, by intros; rfl, by intros; rfl, by intros; rfl, by intros; rfl, by intros; rfl, by intros; rfl, by intros; rfl, by intros; rfl, by intros; rfl, by intros; rfl⟩
theorem vc_X11_isIn (E : zk_E) : zk_VC E (zk_VT E) M_X11_isIn (C_X11_isIn E) 3 (sp_X11_isIn E) := by
  intro av σ sz P PX h
  unfold sp_X11_isIn at h
  split at h
  · rename_i v lo hi
    refine ⟨Nat.le_of_ble_eq_true rfl, fun G hG => hG 100 _ _ _ _ ?_⟩
    show zk_go E (zk_VT E) M_X11_isIn (C_X11_isIn E) P PX G 100 0 [some (.int v), some (.int lo), some (.int hi)] [] (σ, sz, 0, 0)
    simp only [r_X11_isIn, zk_kl_none, zk_kl_int, zk_kl_ref, zk_kl_null, zk_kl_long, zk_kl_rf, zk_isr_ref, zk_isr_null, zk_isr_rf9, zk_c1_int, zk_c1_ref, zk_c1_null, zk_c1_rf, zk_psh_some, zk_psh_none, zk_nok_int, zk_nok_bool0, zk_nok_bool1, zk_nok_b, zk_fok_0, zk_fok_1, zk_fok_2, zk_fok_n, zk_fok_rf, zb_f, zb_p, zb_i, zb_a, zb_s, zk_nth_0, zk_nth_s, zk_fld_o, zk_put_o, zk_rv_eq, zk_ri_eq, zk_is_o, List.mem_cons, List.not_mem_nil, or_false, false_or, or_true, true_or, and_true, true_and, not_false_iff, not_true_eq_false, true_implies, false_implies, imp_self, implies_true, forall_const, eq_self, zk_bq, Bool.true_or, Bool.false_or, Nat.le_refl, Nat.zero_add, Nat.add_zero, Nat.reduceAdd, Nat.reduceLeDiff, Nat.le_zero_eq, and_self, and_false, false_and, ite_true, ite_false, Nat.zero_le, List.length_cons, List.length_nil, Option.some.injEq, forall_eq', reduceCtorEq]
    unfold m_isIn at h
    refine ⟨fun q => ?_, fun q => ⟨fun q2 => ?_, fun q2 => ?_⟩⟩
    · rwa [decide_eq_false (fun z => Int32.not_le.mpr q z.1)] at h
    · rwa [decide_eq_false (fun z => Int32.not_le.mpr q2 z.2)] at h
    · rwa [decide_eq_true ⟨Int32.not_lt.mp q, Int32.not_lt.mp q2⟩] at h
  · exact h.elim
theorem ct_X11_isIn {l : Launch} (hl : l.stackTraces = false) (E : zk_E) : zk_C l E (zk_VT E) yX11_isIn cX11_isIn 3 (some (.boolean)) rm_X11_isIn (sp_X11_isIn E) := by
  refine zk_meth (M := M_X11_isIn) (C := C_X11_isIn E) hl (by decide +kernel) rfl (fun _ _ => rfl) (zk_VT_ok E) MO_X11_isIn TO_X11_isIn THo_X11_isIn ?_ (vc_X11_isIn E)
  exact fun p e s m args below meth c X pc n mc ms sp2 h => absurd (zk_lka_mem h) List.not_mem_nil

