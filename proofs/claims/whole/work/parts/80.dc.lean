/-! the class: removeDoor -/
theorem vaup_self (f : Nat → Option Nat) (k : Nat) (x : Option Nat) : va_up f k x k = x := by unfold va_up; rw [if_pos rfl]
theorem vaup_ne (f : Nat → Option Nat) {k j : Nat} (x : Option Nat) (h : j ≠ k) : va_up f k x j = f j := by unfold va_up; rw [if_neg h]
section XRS
variable {E : zk_E} {sz : Nat} {J N J1 N1 : Nat → Nat → Int32} {Q : Nat → Nat → Option Nat} {O : zk_Hp} {U : Nat → Int64} {fl : Nat → Int32}
theorem XR.rmD (h : XR E sz (J1, N1, Q, O, U) J N fl) {J2 : Nat → Nat → Int32} (h1 : J2 1 = J1 1) (j : Nat) : XR E sz (J2, N1, zk_un Q 3 (va_up (Q 3) j none), O, U) J (uN_rmD N j) fl := by
  obtain ⟨⟨a1, a2, a3, a4, a5⟩, hB, hC, hD, hT, hG⟩ := h
  have hC : XC E sz Q O J N fl := hC
  refine ⟨⟨?_, ?_, ?_, ?_, a5⟩, hB, ?_, hD, hT, ?_⟩
  · rw [← a1]; show J2 1 5 = J1 1 5; rw [h1]
  · rw [← a2]; show J2 1 6 = J1 1 6; rw [h1]
  · rw [← a3]; show J2 1 7 = J1 1 7; rw [h1]
  · rw [← a4]; show J2 1 8 = J1 1 8; rw [h1]
  · intro i hi
    show (∃ a p, MD J (uN_rmD N j) i ∧ va_up (Q 3) j none i = some a ∧ _) ∨ (¬ MD J (uN_rmD N j) i ∧ va_up (Q 3) j none i = none)
    by_cases w : i = j
    · subst w
      refine Or.inr ⟨fun z => z.2 ?_, vaup_self _ _ _⟩
      show upd (N 30) i (-2) i = -2
      rw [upd_self]
    · have e30 : uN_rmD N j 30 i = N 30 i := upd_ne _ _ w
      rw [vaup_ne _ _ w]
      have em : MD J (uN_rmD N j) i = MD J N i := by unfold MD; rw [e30]
      rw [em]
      rcases hC i hi with ⟨a, p2, b1, b2, b3, b4, b5, b6⟩ | ⟨b1, b2⟩
      · refine Or.inl ⟨a, p2, b1, b2, b3, b4, ?_, ?_⟩
        · refine b5.trans ?_
          unfold xdr
          rw [e30]
          rfl
        · refine b6.trans ?_
          unfold xdp
          rw [e30]
          rfl
      · exact Or.inr ⟨b1, b2⟩
  · intro d d2 a hd hd2 e1 e2
    have e1 : va_up (Q 3) j none d = some a := e1
    have e2 : va_up (Q 3) j none d2 = some a := e2
    unfold va_up at e1 e2
    split at e1
    · cases e1
    · split at e2
      · cases e2
      · exact hG d d2 a hd hd2 e1 e2
end XRS
def sp_X10_removeDoor (E : zk_E) : zk_Sp zk_S := fun av σ sz P PX => match av with
  | [.ref a, .int r] => a = zk_ad E 0 ∧ ∃ J N, IC E sz σ J N ∧ DRD J N r (fun j => ZM E σ sz J (uN_rmD N j) (some (.int (m_doorsNow J (uN_rmD N j)))) P) (ZY σ sz "java/lang/IndexOutOfBoundsException" PX)
  | _ => False
theorem spe_X10_removeDoor (E : zk_E) (a : Nat) (r : Int32) (σ : zk_S) (sz : Nat) (P : zk_P zk_S) (PX : zk_X zk_S) : sp_X10_removeDoor E [.ref a, .int r] σ sz P PX = (a = zk_ad E 0 ∧ ∃ J N, IC E sz σ J N ∧ DRD J N r (fun j => ZM E σ sz J (uN_rmD N j) (some (.int (m_doorsNow J (uN_rmD N j)))) P) (ZY σ sz "java/lang/IndexOutOfBoundsException" PX)) := propext Iff.rfl
def C_X10_removeDoor (E : zk_E) : zk_Cl zk_S := zk_lka [(2, 2, 1, 6, zk_rv (zk_VT E) (fun ci => Nat.beq ci 9) (sp_X10_doorThere E)), (28, 3, 0, 0, zk_rv (zk_VT E) (fun ci => Nat.beq ci 4) (sp_X5_countExits E))]
theorem r_X10_removeDoor (E : zk_E) (P : zk_P zk_S) (PX : zk_X zk_S) (K : Nat → zk_L → List Value → zk_W zk_S → Prop) : (∀ (n : Nat) (l1 : Option Value) (y0 : Value) (r : List Value) (σ : zk_S) (sz k c : Nat), zk_run E (zk_VT E) M_X10_removeDoor (C_X10_removeDoor E) P PX K (n + 1) 0 [some y0, l1] r (σ, sz, k, c) = (zk_isr y0 ∧ zk_run E (zk_VT E) M_X10_removeDoor (C_X10_removeDoor E) P PX K n 1 [some y0, l1] (y0 :: r) (σ, sz, k, c))) ∧
  (∀ (n : Nat) (l0 : Option Value) (y1 : Int32) (r : List Value) (σ : zk_S) (sz k c : Nat), zk_run E (zk_VT E) M_X10_removeDoor (C_X10_removeDoor E) P PX K (n + 1) 1 [l0, some (.int y1)] r (σ, sz, k, c) = zk_run E (zk_VT E) M_X10_removeDoor (C_X10_removeDoor E) P PX K n 2 [l0, some (.int y1)] (.int y1 :: r) (σ, sz, k, c)) ∧
  (∀ (n : Nat) (l0 l1 : Option Value) (v0 : Value) (v1 : Value)  (σ : zk_S) (sz k c : Nat), zk_run E (zk_VT E) M_X10_removeDoor (C_X10_removeDoor E) P PX K (n + 1) 2 [l0, l1] [v0, v1] (σ, sz, k, c) = (k + 1 ≤ 1 ∧ c + 6 ≤ 6 ∧ (zk_rv (zk_VT E) (fun ci => Nat.beq ci 9) (sp_X10_doorThere E)) [v1, v0] σ sz (fun v s2 z2 => zk_run E (zk_VT E) M_X10_removeDoor (C_X10_removeDoor E) P PX K n 5 [l0, l1] (zk_psh v []) (s2, z2, k + 1, c + 6)) (fun X s2 z2 => PX X s2 z2))) ∧
  (∀ (n : Nat) (l0 l1 : Option Value) (v : Value) (r : List Value) (σ : zk_S) (sz k c : Nat), zk_run E (zk_VT E) M_X10_removeDoor (C_X10_removeDoor E) P PX K (n + 1) 5 [l0, l1] (v :: r) (σ, sz, k, c) = (zk_c1 v ∧ zk_run E (zk_VT E) M_X10_removeDoor (C_X10_removeDoor E) P PX K n 6 [l0, l1] r (σ, sz, k, c))) ∧
  (∀ (n : Nat) (l1 : Option Value) (y0 : Value) (r : List Value) (σ : zk_S) (sz k c : Nat), zk_run E (zk_VT E) M_X10_removeDoor (C_X10_removeDoor E) P PX K (n + 1) 6 [some y0, l1] r (σ, sz, k, c) = (zk_isr y0 ∧ zk_run E (zk_VT E) M_X10_removeDoor (C_X10_removeDoor E) P PX K n 7 [some y0, l1] (y0 :: r) (σ, sz, k, c))) ∧
  (∀ (n : Nat) (l0 l1 : Option Value) (a : Nat) (r : List Value) (σ : zk_S) (sz k c : Nat), zk_run E (zk_VT E) M_X10_removeDoor (C_X10_removeDoor E) P PX K (n + 1) 7 [l0, l1] (.ref a :: r) (σ, sz, k, c) = zk_fld (zk_view E σ a) [9] 0 (fun v => zk_run E (zk_VT E) M_X10_removeDoor (C_X10_removeDoor E) P PX K n 10 [l0, l1] (v :: r) (σ, sz, k, c))) ∧
  (∀ (n : Nat) (l0 l1 : Option Value) (a : Nat) (r : List Value) (σ : zk_S) (sz k c : Nat), zk_run E (zk_VT E) M_X10_removeDoor (C_X10_removeDoor E) P PX K (n + 1) 10 [l0, l1] (.ref a :: r) (σ, sz, k, c) = zk_fld (zk_view E σ a) [4] 1 (fun v => zk_run E (zk_VT E) M_X10_removeDoor (C_X10_removeDoor E) P PX K n 13 [l0, l1] (v :: r) (σ, sz, k, c))) ∧
  (∀ (n : Nat) (l0 : Option Value) (y1 : Int32) (r : List Value) (σ : zk_S) (sz k c : Nat), zk_run E (zk_VT E) M_X10_removeDoor (C_X10_removeDoor E) P PX K (n + 1) 13 [l0, some (.int y1)] r (σ, sz, k, c) = zk_run E (zk_VT E) M_X10_removeDoor (C_X10_removeDoor E) P PX K n 14 [l0, some (.int y1)] (.int y1 :: r) (σ, sz, k, c)) ∧
  (∀ (n : Nat) (l0 l1 : Option Value)  (r : List Value) (σ : zk_S) (sz k c : Nat), zk_run E (zk_VT E) M_X10_removeDoor (C_X10_removeDoor E) P PX K (n + 1) 14 [l0, l1] r (σ, sz, k, c) = zk_run E (zk_VT E) M_X10_removeDoor (C_X10_removeDoor E) P PX K n 15 [l0, l1] (.null :: r) (σ, sz, k, c)) ∧
  (∀ (n : Nat) (l0 l1 : Option Value) (a : Nat) (i : Int32) (r : List Value) (σ : zk_S) (sz k c : Nat), zk_run E (zk_VT E) M_X10_removeDoor (C_X10_removeDoor E) P PX K (n + 1) 15 [l0, l1] (.null :: .int i :: .ref a :: r) (σ, sz, k, c) = zk_qsn (zk_view E σ a) i [zk_ar E 3, zk_ar E 4, zk_ar E 5, zk_ar E 6] (fun e => zk_wrok E σ a e ∧ zk_run E (zk_VT E) M_X10_removeDoor (C_X10_removeDoor E) P PX K n 16 [l0, l1] r (zk_wr E σ a e, sz, k, c))) ∧
  (∀ (n : Nat) (l0 l1 : Option Value) (a v : Nat) (i : Int32) (r : List Value) (σ : zk_S) (sz k c : Nat), zk_run E (zk_VT E) M_X10_removeDoor (C_X10_removeDoor E) P PX K (n + 1) 15 [l0, l1] (.ref v :: .int i :: .ref a :: r) (σ, sz, k, c) = zk_qst E (zk_view E σ a) (zk_view E σ v) i v (fun e => zk_wrok E σ a e ∧ zk_run E (zk_VT E) M_X10_removeDoor (C_X10_removeDoor E) P PX K n 16 [l0, l1] r (zk_wr E σ a e, sz, k, c))) ∧
  (∀ (n : Nat) (l1 : Option Value) (y0 : Value) (r : List Value) (σ : zk_S) (sz k c : Nat), zk_run E (zk_VT E) M_X10_removeDoor (C_X10_removeDoor E) P PX K (n + 1) 16 [some y0, l1] r (σ, sz, k, c) = (zk_isr y0 ∧ zk_run E (zk_VT E) M_X10_removeDoor (C_X10_removeDoor E) P PX K n 17 [some y0, l1] (y0 :: r) (σ, sz, k, c))) ∧
  (∀ (n : Nat) (l0 l1 : Option Value)  (r : List Value) (σ : zk_S) (sz k c : Nat), zk_run E (zk_VT E) M_X10_removeDoor (C_X10_removeDoor E) P PX K (n + 1) 17 [l0, l1] r (σ, sz, k, c) = zk_run E (zk_VT E) M_X10_removeDoor (C_X10_removeDoor E) P PX K n 18 [l0, l1] (.int (0) :: r) (σ, sz, k, c)) ∧
  (∀ (n : Nat) (l0 l1 : Option Value) (a : Nat) (v : Value) (r : List Value) (σ : zk_S) (sz k c : Nat), zk_run E (zk_VT E) M_X10_removeDoor (C_X10_removeDoor E) P PX K (n + 1) 18 [l0, l1] (v :: .ref a :: r) (σ, sz, k, c) = zk_put (zk_view E σ a) [9] 4 1 v (zk_pfok E σ a 4 v ∧ zk_run E (zk_VT E) M_X10_removeDoor (C_X10_removeDoor E) P PX K n 21 [l0, l1] r (zk_pf E σ a 4 v, sz, k, c))) ∧
  (∀ (n : Nat) (l1 : Option Value) (y0 : Value) (r : List Value) (σ : zk_S) (sz k c : Nat), zk_run E (zk_VT E) M_X10_removeDoor (C_X10_removeDoor E) P PX K (n + 1) 21 [some y0, l1] r (σ, sz, k, c) = (zk_isr y0 ∧ zk_run E (zk_VT E) M_X10_removeDoor (C_X10_removeDoor E) P PX K n 22 [some y0, l1] (y0 :: r) (σ, sz, k, c))) ∧
  (∀ (n : Nat) (l0 l1 : Option Value) (a : Nat) (r : List Value) (σ : zk_S) (sz k c : Nat), zk_run E (zk_VT E) M_X10_removeDoor (C_X10_removeDoor E) P PX K (n + 1) 22 [l0, l1] (.ref a :: r) (σ, sz, k, c) = zk_fld (zk_view E σ a) [9] 0 (fun v => zk_run E (zk_VT E) M_X10_removeDoor (C_X10_removeDoor E) P PX K n 25 [l0, l1] (v :: r) (σ, sz, k, c))) ∧
  (∀ (n : Nat) (l0 l1 : Option Value)  (r : List Value) (σ : zk_S) (sz k c : Nat), zk_run E (zk_VT E) M_X10_removeDoor (C_X10_removeDoor E) P PX K (n + 1) 25 [l0, l1] r (σ, sz, k, c) = zk_run E (zk_VT E) M_X10_removeDoor (C_X10_removeDoor E) P PX K n 26 [l0, l1] (.int (0) :: r) (σ, sz, k, c)) ∧
  (∀ (n : Nat) (l0 l1 : Option Value)  (r : List Value) (σ : zk_S) (sz k c : Nat), zk_run E (zk_VT E) M_X10_removeDoor (C_X10_removeDoor E) P PX K (n + 1) 26 [l0, l1] r (σ, sz, k, c) = zk_run E (zk_VT E) M_X10_removeDoor (C_X10_removeDoor E) P PX K n 28 [l0, l1] (.int (40) :: r) (σ, sz, k, c)) ∧
  (∀ (n : Nat) (l0 l1 : Option Value) (v0 : Value) (v1 : Value) (v2 : Value)  (σ : zk_S) (sz k c : Nat), zk_run E (zk_VT E) M_X10_removeDoor (C_X10_removeDoor E) P PX K (n + 1) 28 [l0, l1] [v0, v1, v2] (σ, sz, k, c) = (k + 0 ≤ 1 ∧ c + 0 ≤ 6 ∧ (zk_rv (zk_VT E) (fun ci => Nat.beq ci 4) (sp_X5_countExits E)) [v2, v1, v0] σ sz (fun v s2 z2 => zk_run E (zk_VT E) M_X10_removeDoor (C_X10_removeDoor E) P PX K n 31 [l0, l1] (zk_psh v []) (s2, z2, k + 0, c + 0)) (fun X s2 z2 => PX X s2 z2))) ∧
  (∀ (n : Nat) (l0 l1 : Option Value) (x : Int32)  (σ : zk_S) (sz k c : Nat), zk_run E (zk_VT E) M_X10_removeDoor (C_X10_removeDoor E) P PX K (n + 1) 31 [l0, l1] [.int x] (σ, sz, k, c) = (zk_nok (some (.int)) x ∧ P (some (.int x)) σ sz ∧ k ≤ 1 ∧ c ≤ 6)) ∧
  (∀ (n : Nat) (l0 l1 : Option Value) (r : List Value) (w : zk_W zk_S), zk_go E (zk_VT E) M_X10_removeDoor (C_X10_removeDoor E) P PX K n 0 [l0, l1] r w = zk_run E (zk_VT E) M_X10_removeDoor (C_X10_removeDoor E) P PX K (n + 1) 0 [l0, l1] r w) := ⟨by intros; rfl, by intros; rfl, by intros; rfl, by intros; rfl, by intros; rfl, by intros; rfl, by intros; rfl, by intros; rfl, by intros; rfl, by intros; rfl, by intros; rfl, by intros; rfl, by intros; rfl, by intros; rfl, by intros; rfl, by intros; rfl, by intros; rfl, by intros; rfl, by intros; rfl, by intros; rfl, by intros; rfl⟩
theorem vc_X10_removeDoor (E : zk_E) : zk_VC E (zk_VT E) M_X10_removeDoor (C_X10_removeDoor E) 2 (sp_X10_removeDoor E) := by
  intro av σ sz P PX h
  obtain ⟨J, N, Q, O, U⟩ := σ
  unfold sp_X10_removeDoor at h
  split at h
  case h_2 => exact h.elim
  rename_i a0 r
  obtain ⟨rfl, h⟩ := h
  refine ⟨Nat.le_of_ble_eq_true rfl, fun G hG => ?_⟩
  change G 0 [some (.ref (zk_ad E 0)), some (.int r)] [] ((J, N, Q, O, U), sz, 0, 0)
  try dsimp only at h
  obtain ⟨J1, N1, ⟨hmi, hxr, hrk⟩, h⟩ := h
  rcases h with ⟨j, hj, rfl, h⟩ | ⟨hr, h⟩
  · obtain ⟨b, p, hb, hbo, hpo, hOb, hOp⟩ := hxr.2.2.1.door hmi.1 hj
    have hb : Q 3 j = some b := hb
    have hj40 := hj.lt hmi.1
    have in19 : m_isIn (nI j) 0 39 = true := n_isIn (by decide) hj40 (by decide)
    have hcl : (nI j).toNatClampNeg = j := n_cl (by omega)
    have hin : vp_in (nI j) 40 := n_in hj40 (by decide)
    have hx2 := hxr.rmD (J2 := zk_uj J 0 4 0) rfl j
    have h := h _ _ _ _ sz (Nat.le_refl _) rfl (uj_22 (by decide)) (fun _ _ => rfl) hx2
    have e := hx2.2.2.1.cnt hmi.1
    (refine hG 900 _ _ _ _ ?_; simp only [r_X10_removeDoor, zk_kl_none, zk_kl_int, zk_kl_ref, zk_kl_null, zk_kl_long, zk_kl_rf, zk_isr_ref, zk_isr_null, zk_isr_rf9, zk_c1_int, zk_c1_ref, zk_c1_null, zk_c1_rf, zk_psh_some, zk_psh_none, zk_nok_int, zk_nok_bool0, zk_nok_bool1, zk_nok_b, zk_fok_0, zk_fok_1, zk_fok_2, zk_fok_n, zk_fok_rf, zb_f, zb_p, zb_i, zb_a, zb_s, zk_nth_0, zk_nth_s, zk_fld_o, zk_put_o, zk_rv_eq, zk_ri_eq, zk_is_o, List.mem_cons, List.not_mem_nil, or_false, false_or, or_true, true_or, and_true, true_and, not_false_iff, not_true_eq_false, true_implies, false_implies, imp_self, implies_true, forall_const, zk_lit, zk_uj_ap, zk_un_ap, zk_un_un, zk_uj_uj, Nat.reduceEqDiff, eq_self, zk_bq, Bool.true_or, Bool.false_or, Nat.le_refl, Nat.zero_add, Nat.add_zero, Nat.reduceAdd, Nat.reduceLeDiff, Nat.le_zero_eq, and_self, and_false, false_and, ite_true, ite_false, Nat.zero_le, List.length_cons, List.length_nil, Option.some.injEq, forall_eq', reduceCtorEq, spe_X10_doorThere, in19, hcl, hin, hb, Bool.true_eq_false, spe_X5_countExits])
    refine ⟨0, 40, by decide, rfl, rfl, ?_⟩
    rw [← e] at h
    exact h
  · rcases hxr.nodoor hmi.1 hr with q | ⟨q, q2⟩
    · (refine hG 900 _ _ _ _ ?_; simp only [r_X10_removeDoor, zk_kl_none, zk_kl_int, zk_kl_ref, zk_kl_null, zk_kl_long, zk_kl_rf, zk_isr_ref, zk_isr_null, zk_isr_rf9, zk_c1_int, zk_c1_ref, zk_c1_null, zk_c1_rf, zk_psh_some, zk_psh_none, zk_nok_int, zk_nok_bool0, zk_nok_bool1, zk_nok_b, zk_fok_0, zk_fok_1, zk_fok_2, zk_fok_n, zk_fok_rf, zb_f, zb_p, zb_i, zb_a, zb_s, zk_nth_0, zk_nth_s, zk_fld_o, zk_put_o, zk_rv_eq, zk_ri_eq, zk_is_o, List.mem_cons, List.not_mem_nil, or_false, false_or, or_true, true_or, and_true, true_and, not_false_iff, not_true_eq_false, true_implies, false_implies, imp_self, implies_true, forall_const, zk_lit, zk_uj_ap, zk_un_ap, zk_un_un, zk_uj_uj, Nat.reduceEqDiff, eq_self, zk_bq, Bool.true_or, Bool.false_or, Nat.le_refl, Nat.zero_add, Nat.add_zero, Nat.reduceAdd, Nat.reduceLeDiff, Nat.le_zero_eq, and_self, and_false, false_and, ite_true, ite_false, Nat.zero_le, List.length_cons, List.length_nil, Option.some.injEq, forall_eq', reduceCtorEq, spe_X10_doorThere, q, Bool.false_eq_true])
      exact fun z2 hz => h O z2 hz (fun _ _ => rfl)
    · (refine hG 900 _ _ _ _ ?_; simp only [r_X10_removeDoor, zk_kl_none, zk_kl_int, zk_kl_ref, zk_kl_null, zk_kl_long, zk_kl_rf, zk_isr_ref, zk_isr_null, zk_isr_rf9, zk_c1_int, zk_c1_ref, zk_c1_null, zk_c1_rf, zk_psh_some, zk_psh_none, zk_nok_int, zk_nok_bool0, zk_nok_bool1, zk_nok_b, zk_fok_0, zk_fok_1, zk_fok_2, zk_fok_n, zk_fok_rf, zb_f, zb_p, zb_i, zb_a, zb_s, zk_nth_0, zk_nth_s, zk_fld_o, zk_put_o, zk_rv_eq, zk_ri_eq, zk_is_o, List.mem_cons, List.not_mem_nil, or_false, false_or, or_true, true_or, and_true, true_and, not_false_iff, not_true_eq_false, true_implies, false_implies, imp_self, implies_true, forall_const, zk_lit, zk_uj_ap, zk_un_ap, zk_un_un, zk_uj_uj, Nat.reduceEqDiff, eq_self, zk_bq, Bool.true_or, Bool.false_or, Nat.le_refl, Nat.zero_add, Nat.add_zero, Nat.reduceAdd, Nat.reduceLeDiff, Nat.le_zero_eq, and_self, and_false, false_and, ite_true, ite_false, Nat.zero_le, List.length_cons, List.length_nil, Option.some.injEq, forall_eq', reduceCtorEq, spe_X10_doorThere, q, q2])
      exact fun z2 hz => h O z2 hz (fun _ _ => rfl)
theorem ct_X10_removeDoor {l : Launch} (hl : l.stackTraces = false) (E : zk_E) : zk_C l E (zk_VT E) yX10_removeDoor cX10_removeDoor 2 (some (.int)) rm_X10_removeDoor (sp_X10_removeDoor E) := by
  refine zk_meth (M := M_X10_removeDoor) (C := C_X10_removeDoor E) hl (by decide +kernel) rfl (fun _ _ => rfl) (zk_VT_ok E) MO_X10_removeDoor TO_X10_removeDoor THo_X10_removeDoor ?_ (vc_X10_removeDoor E)
  exact fun p e s m args below meth c X pc n mc ms sp2 h => by
    have h2 := zk_lka_mem h
    simp only [List.mem_cons, List.not_mem_nil, or_false, Prod.mk.injEq] at h2
    rcases h2 with ⟨rfl, rfl, rfl, rfl, rfl⟩ | ⟨rfl, rfl, rfl, rfl, rfl⟩
    · exact zk_coV (idx := 167) X (ct_X10_doorThere hl E) (List.forall_mem_cons.mpr ⟨zk_wi 782 (by decide +kernel) rfl, List.forall_mem_cons.mpr ⟨zk_wi 784 (by decide +kernel) rfl, List.forall_mem_cons.mpr ⟨zk_wp 8 (by decide +kernel) rfl, List.forall_mem_cons.mpr ⟨zk_wi 1 (by decide +kernel) rfl, List.forall_mem_cons.mpr ⟨zk_wi 785 (by decide +kernel) rfl, fun _ h => absurd h List.not_mem_nil⟩⟩⟩⟩⟩) (fun ci h => by
      have h := Nat.eq_of_beq_eq_true h
      subst h
      exact ⟨_, _, rfl⟩) (by decide +kernel) ⟨by decide, by decide, by decide +kernel⟩ ⟨by decide, by decide⟩
    · exact zk_coV (idx := 174) X (ct_X5_countExits hl E) (List.forall_mem_cons.mpr ⟨zk_wi 191 (by decide +kernel) rfl, List.forall_mem_cons.mpr ⟨zk_wi 192 (by decide +kernel) rfl, List.forall_mem_cons.mpr ⟨zk_wi 193 (by decide +kernel) rfl, List.forall_mem_cons.mpr ⟨zk_wi 2 (by decide +kernel) rfl, List.forall_mem_cons.mpr ⟨zk_wi 194 (by decide +kernel) rfl, fun _ h => absurd h List.not_mem_nil⟩⟩⟩⟩⟩) (fun ci h => by
      have h := Nat.eq_of_beq_eq_true h
      subst h
      exact ⟨_, _, rfl⟩) (by decide +kernel) ⟨by decide, by decide, by decide +kernel⟩ ⟨by decide, by decide⟩

