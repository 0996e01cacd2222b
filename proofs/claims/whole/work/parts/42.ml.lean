/-! the reference: what is told of faults; means; what would be -/
def fqL (L : zk_F3) (i w : Nat) : Int32 := match L[i]? with
  | some p => if w = 0 then p.1 else if w = 1 then p.2.1 else p.2.2
  | none => 0
def a_fq (J N : Nat → Nat → Int32) (i w : Nat) : Int32 := fqL (a_fl J N 10) i w
theorem ES.fq {J J2 N N2 : Nat → Nat → Int32} (h : ES J J2 N N2) : a_fq J2 N2 = a_fq J N := by funext i w; unfold a_fq; rw [h.fl]
theorem FTL.at {F : Nat → Int32} {L : zk_F3} {i w : Nat} (h : FTL F L) (hi : i < L.length) (hw : w < 3) : F (3 * i + w) = fqL L i w := by
  obtain ⟨h0, h1, h2⟩ := h i hi
  unfold fqL
  rw [List.getElem?_eq_getElem hi]
  generalize L[i] = p at h0 h1 h2
  have : w = 0 ∨ w = 1 ∨ w = 2 := by omega
  rcases this with rfl | rfl | rfl
  · exact h0
  · exact h1
  · exact h2
theorem a_faults_le (J N : Nat → Nat → Int32) : a_faults J N ≤ 400 := a_fl_len J N 10
def sp_X11_ofFault (E : zk_E) : zk_Sp zk_S := fun av σ sz P PX => match av with
  | [.ref a, .int i, .int x] => a = zk_ad E 22 ∧ MI σ.1 σ.2.1 ∧ (∃ w, w < 3 ∧ x = nI w) ∧ (m_isIn i 0 (nI (a_faults σ.1 σ.2.1) - 1) = false → ZQ σ sz 1 (some (.int 0)) P) ∧ (m_isIn i 0 (nI (a_faults σ.1 σ.2.1) - 1) = true → ZQ σ sz 0 (some (.int (a_fq σ.1 σ.2.1 i.toNatClampNeg x.toNatClampNeg))) P)
  | _ => False
theorem spe_X11_ofFault (E : zk_E) (a : Nat) (i : Int32) (x : Int32) (σ : zk_S) (sz : Nat) (P : zk_P zk_S) (PX : zk_X zk_S) : sp_X11_ofFault E [.ref a, .int i, .int x] σ sz P PX = (a = zk_ad E 22 ∧ MI σ.1 σ.2.1 ∧ (∃ w, w < 3 ∧ x = nI w) ∧ (m_isIn i 0 (nI (a_faults σ.1 σ.2.1) - 1) = false → ZQ σ sz 1 (some (.int 0)) P) ∧ (m_isIn i 0 (nI (a_faults σ.1 σ.2.1) - 1) = true → ZQ σ sz 0 (some (.int (a_fq σ.1 σ.2.1 i.toNatClampNeg x.toNatClampNeg))) P)) := propext Iff.rfl
def C_X11_ofFault (E : zk_E) : zk_Cl zk_S := zk_lka [(8, 1, 0, 0, zk_rv (zk_VT E) (fun ci => Nat.beq ci 10) (sp_X11_faultsNow E)), (13, 3, 0, 0, sp_X11_isIn E), (34, 2, 0, 0, zk_rv (zk_VT E) (fun ci => Nat.beq ci 10) (sp_X11_no E))]
theorem r_X11_ofFault (E : zk_E) (P : zk_P zk_S) (PX : zk_X zk_S) (K : Nat → zk_L → List Value → zk_W zk_S → Prop) : (∀ (n : Nat) (l1 l2 : Option Value) (y0 : Value) (r : List Value) (σ : zk_S) (sz k c : Nat), zk_run E (zk_VT E) M_X11_ofFault (C_X11_ofFault E) P PX K (n + 1) 0 [some y0, l1, l2] r (σ, sz, k, c) = (zk_isr y0 ∧ zk_run E (zk_VT E) M_X11_ofFault (C_X11_ofFault E) P PX K n 1 [some y0, l1, l2] (y0 :: r) (σ, sz, k, c))) ∧
  (∀ (n : Nat) (l0 l1 l2 : Option Value)  (r : List Value) (σ : zk_S) (sz k c : Nat), zk_run E (zk_VT E) M_X11_ofFault (C_X11_ofFault E) P PX K (n + 1) 1 [l0, l1, l2] r (σ, sz, k, c) = zk_run E (zk_VT E) M_X11_ofFault (C_X11_ofFault E) P PX K n 2 [l0, l1, l2] (.int (0) :: r) (σ, sz, k, c)) ∧
  (∀ (n : Nat) (l0 l1 l2 : Option Value) (a : Nat) (v : Value) (r : List Value) (σ : zk_S) (sz k c : Nat), zk_run E (zk_VT E) M_X11_ofFault (C_X11_ofFault E) P PX K (n + 1) 2 [l0, l1, l2] (v :: .ref a :: r) (σ, sz, k, c) = zk_put (zk_view E σ a) [10] 0 0 v (zk_pfok E σ a 0 v ∧ zk_run E (zk_VT E) M_X11_ofFault (C_X11_ofFault E) P PX K n 5 [l0, l1, l2] r (zk_pf E σ a 0 v, sz, k, c))) ∧
  (∀ (n : Nat) (l0 l2 : Option Value) (y1 : Int32) (r : List Value) (σ : zk_S) (sz k c : Nat), zk_run E (zk_VT E) M_X11_ofFault (C_X11_ofFault E) P PX K (n + 1) 5 [l0, some (.int y1), l2] r (σ, sz, k, c) = zk_run E (zk_VT E) M_X11_ofFault (C_X11_ofFault E) P PX K n 6 [l0, some (.int y1), l2] (.int y1 :: r) (σ, sz, k, c)) ∧
  (∀ (n : Nat) (l0 l1 l2 : Option Value)  (r : List Value) (σ : zk_S) (sz k c : Nat), zk_run E (zk_VT E) M_X11_ofFault (C_X11_ofFault E) P PX K (n + 1) 6 [l0, l1, l2] r (σ, sz, k, c) = zk_run E (zk_VT E) M_X11_ofFault (C_X11_ofFault E) P PX K n 7 [l0, l1, l2] (.int (0) :: r) (σ, sz, k, c)) ∧
  (∀ (n : Nat) (l1 l2 : Option Value) (y0 : Value) (r : List Value) (σ : zk_S) (sz k c : Nat), zk_run E (zk_VT E) M_X11_ofFault (C_X11_ofFault E) P PX K (n + 1) 7 [some y0, l1, l2] r (σ, sz, k, c) = (zk_isr y0 ∧ zk_run E (zk_VT E) M_X11_ofFault (C_X11_ofFault E) P PX K n 8 [some y0, l1, l2] (y0 :: r) (σ, sz, k, c))) ∧
  (∀ (n : Nat) (l0 l1 l2 : Option Value) (v0 : Value) (v1 : Value) (v2 : Value)  (σ : zk_S) (sz k c : Nat), zk_run E (zk_VT E) M_X11_ofFault (C_X11_ofFault E) P PX K (n + 1) 8 [l0, l1, l2] [v0, v1, v2] (σ, sz, k, c) = (k + 0 ≤ 0 ∧ c + 0 ≤ 0 ∧ (zk_rv (zk_VT E) (fun ci => Nat.beq ci 10) (sp_X11_faultsNow E)) [v0] σ sz (fun v s2 z2 => zk_run E (zk_VT E) M_X11_ofFault (C_X11_ofFault E) P PX K n 11 [l0, l1, l2] (zk_psh v [v1, v2]) (s2, z2, k + 0, c + 0)) (fun X s2 z2 => PX X s2 z2))) ∧
  (∀ (n : Nat) (l0 l1 l2 : Option Value)  (r : List Value) (σ : zk_S) (sz k c : Nat), zk_run E (zk_VT E) M_X11_ofFault (C_X11_ofFault E) P PX K (n + 1) 11 [l0, l1, l2] r (σ, sz, k, c) = zk_run E (zk_VT E) M_X11_ofFault (C_X11_ofFault E) P PX K n 12 [l0, l1, l2] (.int (1) :: r) (σ, sz, k, c)) ∧
  (∀ (n : Nat) (l0 l1 l2 : Option Value) (x y : Int32) (r : List Value) (σ : zk_S) (sz k c : Nat), zk_run E (zk_VT E) M_X11_ofFault (C_X11_ofFault E) P PX K (n + 1) 12 [l0, l1, l2] (.int y :: .int x :: r) (σ, sz, k, c) = zk_run E (zk_VT E) M_X11_ofFault (C_X11_ofFault E) P PX K n 13 [l0, l1, l2] (.int (x - y) :: r) (σ, sz, k, c)) ∧
  (∀ (n : Nat) (l0 l1 l2 : Option Value) (v0 : Value) (v1 : Value) (v2 : Value)  (σ : zk_S) (sz k c : Nat), zk_run E (zk_VT E) M_X11_ofFault (C_X11_ofFault E) P PX K (n + 1) 13 [l0, l1, l2] [v0, v1, v2] (σ, sz, k, c) = (k + 0 ≤ 0 ∧ c + 0 ≤ 0 ∧ (sp_X11_isIn E) [v2, v1, v0] σ sz (fun v s2 z2 => zk_run E (zk_VT E) M_X11_ofFault (C_X11_ofFault E) P PX K n 16 [l0, l1, l2] (zk_psh v []) (s2, z2, k + 0, c + 0)) (fun X s2 z2 => PX X s2 z2))) ∧
  (∀ (n : Nat) (l0 l1 l2 : Option Value) (x : Int32) (r : List Value) (σ : zk_S) (sz k c : Nat), zk_run E (zk_VT E) M_X11_ofFault (C_X11_ofFault E) P PX K (n + 1) 16 [l0, l1, l2] (.int x :: r) (σ, sz, k, c) = ((x = 0 → zk_run E (zk_VT E) M_X11_ofFault (C_X11_ofFault E) P PX K n 32 [l0, l1, l2] r (σ, sz, k, c)) ∧ (¬ (x = 0) → zk_run E (zk_VT E) M_X11_ofFault (C_X11_ofFault E) P PX K n 19 [l0, l1, l2] r (σ, sz, k, c)))) ∧
  (∀ (n : Nat) (l1 l2 : Option Value) (y0 : Value) (r : List Value) (σ : zk_S) (sz k c : Nat), zk_run E (zk_VT E) M_X11_ofFault (C_X11_ofFault E) P PX K (n + 1) 19 [some y0, l1, l2] r (σ, sz, k, c) = (zk_isr y0 ∧ zk_run E (zk_VT E) M_X11_ofFault (C_X11_ofFault E) P PX K n 20 [some y0, l1, l2] (y0 :: r) (σ, sz, k, c))) ∧
  (∀ (n : Nat) (l0 l1 l2 : Option Value) (a : Nat) (r : List Value) (σ : zk_S) (sz k c : Nat), zk_run E (zk_VT E) M_X11_ofFault (C_X11_ofFault E) P PX K (n + 1) 20 [l0, l1, l2] (.ref a :: r) (σ, sz, k, c) = zk_fld (zk_view E σ a) [10] 34 (fun v => zk_run E (zk_VT E) M_X11_ofFault (C_X11_ofFault E) P PX K n 23 [l0, l1, l2] (v :: r) (σ, sz, k, c))) ∧
  (∀ (n : Nat) (l0 l1 l2 : Option Value)  (r : List Value) (σ : zk_S) (sz k c : Nat), zk_run E (zk_VT E) M_X11_ofFault (C_X11_ofFault E) P PX K (n + 1) 23 [l0, l1, l2] r (σ, sz, k, c) = zk_run E (zk_VT E) M_X11_ofFault (C_X11_ofFault E) P PX K n 24 [l0, l1, l2] (.int (3) :: r) (σ, sz, k, c)) ∧
  (∀ (n : Nat) (l0 l2 : Option Value) (y1 : Int32) (r : List Value) (σ : zk_S) (sz k c : Nat), zk_run E (zk_VT E) M_X11_ofFault (C_X11_ofFault E) P PX K (n + 1) 24 [l0, some (.int y1), l2] r (σ, sz, k, c) = zk_run E (zk_VT E) M_X11_ofFault (C_X11_ofFault E) P PX K n 25 [l0, some (.int y1), l2] (.int y1 :: r) (σ, sz, k, c)) ∧
  (∀ (n : Nat) (l0 l1 l2 : Option Value) (x y : Int32) (r : List Value) (σ : zk_S) (sz k c : Nat), zk_run E (zk_VT E) M_X11_ofFault (C_X11_ofFault E) P PX K (n + 1) 25 [l0, l1, l2] (.int y :: .int x :: r) (σ, sz, k, c) = zk_run E (zk_VT E) M_X11_ofFault (C_X11_ofFault E) P PX K n 26 [l0, l1, l2] (.int (x * y) :: r) (σ, sz, k, c)) ∧
  (∀ (n : Nat) (l0 l1 : Option Value) (y2 : Int32) (r : List Value) (σ : zk_S) (sz k c : Nat), zk_run E (zk_VT E) M_X11_ofFault (C_X11_ofFault E) P PX K (n + 1) 26 [l0, l1, some (.int y2)] r (σ, sz, k, c) = zk_run E (zk_VT E) M_X11_ofFault (C_X11_ofFault E) P PX K n 27 [l0, l1, some (.int y2)] (.int y2 :: r) (σ, sz, k, c)) ∧
  (∀ (n : Nat) (l0 l1 l2 : Option Value) (x y : Int32) (r : List Value) (σ : zk_S) (sz k c : Nat), zk_run E (zk_VT E) M_X11_ofFault (C_X11_ofFault E) P PX K (n + 1) 27 [l0, l1, l2] (.int y :: .int x :: r) (σ, sz, k, c) = zk_run E (zk_VT E) M_X11_ofFault (C_X11_ofFault E) P PX K n 28 [l0, l1, l2] (.int (x + y) :: r) (σ, sz, k, c)) ∧
  (∀ (n : Nat) (l0 l1 l2 : Option Value) (a : Nat) (i : Int32) (r : List Value) (σ : zk_S) (sz k c : Nat), zk_run E (zk_VT E) M_X11_ofFault (C_X11_ofFault E) P PX K (n + 1) 28 [l0, l1, l2] (.int i :: .ref a :: r) (σ, sz, k, c) = zk_ild (zk_view E σ a) (zk_ar E 0) i (fun x => zk_run E (zk_VT E) M_X11_ofFault (C_X11_ofFault E) P PX K n 29 [l0, l1, l2] (.int x :: r) (σ, sz, k, c))) ∧
  (∀ (n : Nat) (l0 l1 l2 : Option Value)  (r : List Value) (σ : zk_S) (sz k c : Nat), zk_run E (zk_VT E) M_X11_ofFault (C_X11_ofFault E) P PX K (n + 1) 29 [l0, l1, l2] r (σ, sz, k, c) = zk_run E (zk_VT E) M_X11_ofFault (C_X11_ofFault E) P PX K n 37 [l0, l1, l2] r (σ, sz, k, c)) ∧
  (∀ (n : Nat) (l1 l2 : Option Value) (y0 : Value) (r : List Value) (σ : zk_S) (sz k c : Nat), zk_run E (zk_VT E) M_X11_ofFault (C_X11_ofFault E) P PX K (n + 1) 32 [some y0, l1, l2] r (σ, sz, k, c) = (zk_isr y0 ∧ zk_run E (zk_VT E) M_X11_ofFault (C_X11_ofFault E) P PX K n 33 [some y0, l1, l2] (y0 :: r) (σ, sz, k, c))) ∧
  (∀ (n : Nat) (l0 l1 l2 : Option Value)  (r : List Value) (σ : zk_S) (sz k c : Nat), zk_run E (zk_VT E) M_X11_ofFault (C_X11_ofFault E) P PX K (n + 1) 33 [l0, l1, l2] r (σ, sz, k, c) = zk_run E (zk_VT E) M_X11_ofFault (C_X11_ofFault E) P PX K n 34 [l0, l1, l2] (.int (1) :: r) (σ, sz, k, c)) ∧
  (∀ (n : Nat) (l0 l1 l2 : Option Value) (v0 : Value) (v1 : Value)  (σ : zk_S) (sz k c : Nat), zk_run E (zk_VT E) M_X11_ofFault (C_X11_ofFault E) P PX K (n + 1) 34 [l0, l1, l2] [v0, v1] (σ, sz, k, c) = (k + 0 ≤ 0 ∧ c + 0 ≤ 0 ∧ (zk_rv (zk_VT E) (fun ci => Nat.beq ci 10) (sp_X11_no E)) [v1, v0] σ sz (fun v s2 z2 => zk_run E (zk_VT E) M_X11_ofFault (C_X11_ofFault E) P PX K n 37 [l0, l1, l2] (zk_psh v []) (s2, z2, k + 0, c + 0)) (fun X s2 z2 => PX X s2 z2))) ∧
  (∀ (n : Nat) (l0 l1 l2 : Option Value) (x : Int32)  (σ : zk_S) (sz k c : Nat), zk_run E (zk_VT E) M_X11_ofFault (C_X11_ofFault E) P PX K (n + 1) 37 [l0, l1, l2] [.int x] (σ, sz, k, c) = (zk_nok (some (.int)) x ∧ P (some (.int x)) σ sz ∧ k ≤ 0 ∧ c ≤ 0)) ∧
  (∀ (n : Nat) (l0 l1 l2 : Option Value) (r : List Value) (w : zk_W zk_S), zk_go E (zk_VT E) M_X11_ofFault (C_X11_ofFault E) P PX K n 0 [l0, l1, l2] r w = zk_run E (zk_VT E) M_X11_ofFault (C_X11_ofFault E) P PX K (n + 1) 0 [l0, l1, l2] r w) := ⟨by intros; rfl, by intros; rfl, by intros; rfl, by intros; rfl, by intros; rfl, by intros; rfl, by intros; rfl, by intros; rfl, by intros; rfl, by intros; rfl, by intros; rfl, by intros; rfl, by intros; rfl, by intros; rfl, by intros; rfl, by intros; rfl, by intros; rfl, by intros; rfl, by intros; rfl, by intros; rfl, by intros; rfl, by intros; rfl, by intros; rfl, by intros; rfl, by intros; rfl⟩
theorem vc_X11_ofFault (E : zk_E) : zk_VC E (zk_VT E) M_X11_ofFault (C_X11_ofFault E) 3 (sp_X11_ofFault E) := by
  intro av σ sz P PX h
  obtain ⟨J, N, Q, O, U⟩ := σ
  unfold sp_X11_ofFault at h
  split at h
  case h_2 => exact h.elim
  rename_i a0 i x
  obtain ⟨rfl, h⟩ := h
  refine ⟨Nat.le_of_ble_eq_true rfl, fun G hG => ?_⟩
  change G 0 [some (.ref (zk_ad E 22)), some (.int i), some (.int x)] [] ((J, N, Q, O, U), sz, 0, 0)
  try dsimp only at h
  obtain ⟨hmi, ⟨w, hw, rfl⟩, h1, h2⟩ := h
  have hle := a_faults_le J N
  (refine hG 900 _ _ _ _ ?_; simp only [r_X11_ofFault, zk_kl_none, zk_kl_int, zk_kl_ref, zk_kl_null, zk_kl_long, zk_kl_rf, zk_isr_ref, zk_isr_null, zk_isr_rf9, zk_c1_int, zk_c1_ref, zk_c1_null, zk_c1_rf, zk_psh_some, zk_psh_none, zk_nok_int, zk_nok_bool0, zk_nok_bool1, zk_nok_b, zk_fok_0, zk_fok_1, zk_fok_2, zk_fok_n, zk_fok_rf, zb_f, zb_p, zb_i, zb_a, zb_s, zk_nth_0, zk_nth_s, zk_fld_o, zk_put_o, zk_rv_eq, zk_ri_eq, zk_is_o, List.mem_cons, List.not_mem_nil, or_false, false_or, or_true, true_or, and_true, true_and, not_false_iff, not_true_eq_false, true_implies, false_implies, imp_self, implies_true, forall_const, zk_lit, zk_uj_ap, zk_un_ap, zk_un_un, zk_uj_uj, Nat.reduceEqDiff, eq_self, zk_bq, Bool.true_or, Bool.false_or, Nat.le_refl, Nat.zero_add, Nat.add_zero, Nat.reduceAdd, Nat.reduceLeDiff, Nat.le_zero_eq, and_self, and_false, false_and, ite_true, ite_false, Nat.zero_le, List.length_cons, List.length_nil, Option.some.injEq, forall_eq', reduceCtorEq, spe_X11_faultsNow])
  refine ⟨hmi.thr 0, fun J2 N2 hfo => ?_⟩
  have qe := hfo.qe (QE.thr J N 0)
  have hft := hfo.2.2.2.2
  have es1 := (QE.thr J N 0).es
  rw [es1.fl] at hft ⊢
  have ea : nI (a_fl J N 10).length = nI (a_faults J N) := rfl
  cases q : m_isIn i 0 (nI (a_faults J N) - 1) with
  | false =>
    simp only [r_X11_ofFault, zk_kl_none, zk_kl_int, zk_kl_ref, zk_kl_null, zk_kl_long, zk_kl_rf, zk_isr_ref, zk_isr_null, zk_isr_rf9, zk_c1_int, zk_c1_ref, zk_c1_null, zk_c1_rf, zk_psh_some, zk_psh_none, zk_nok_int, zk_nok_bool0, zk_nok_bool1, zk_nok_b, zk_fok_0, zk_fok_1, zk_fok_2, zk_fok_n, zk_fok_rf, zb_f, zb_p, zb_i, zb_a, zb_s, zk_nth_0, zk_nth_s, zk_fld_o, zk_put_o, zk_rv_eq, zk_ri_eq, zk_is_o, List.mem_cons, List.not_mem_nil, or_false, false_or, or_true, true_or, and_true, true_and, not_false_iff, not_true_eq_false, true_implies, false_implies, imp_self, implies_true, forall_const, zk_lit, zk_uj_ap, zk_un_ap, zk_un_un, zk_uj_uj, Nat.reduceEqDiff, eq_self, zk_bq, Bool.true_or, Bool.false_or, Nat.le_refl, Nat.zero_add, Nat.add_zero, Nat.reduceAdd, Nat.reduceLeDiff, Nat.le_zero_eq, and_self, and_false, false_and, ite_true, ite_false, Nat.zero_le, List.length_cons, List.length_nil, Option.some.injEq, forall_eq', reduceCtorEq, ea, spe_X11_isIn, q, zk_b0, spe_X11_no]
    exact h1 q _ _ _ _ (qe.trans (QE.thr _ _ 1)) (fun _ _ => rfl) (Nat.le_refl _)
  | true =>
    obtain ⟨k, hk, rfl⟩ := m_isIn_lt (by omega) q
    have h3 := h2 q
    rw [n_cl (by omega), n_cl (by omega)] at h3
    have e0 : (3 : Int32) * nI k = nI (3 * k) := n_mul 3 k
    have i0 : vp_in (nI (3 * k + w)) 1200 := n_in (by omega) (by decide)
    have l0 : (nI (3 * k + w)).toNatClampNeg = 3 * k + w := n_cl (by omega)
    have hat : N2 51 (3 * k + w) = a_fq J N k w := FTL.at hft hk hw
    simp only [r_X11_ofFault, zk_kl_none, zk_kl_int, zk_kl_ref, zk_kl_null, zk_kl_long, zk_kl_rf, zk_isr_ref, zk_isr_null, zk_isr_rf9, zk_c1_int, zk_c1_ref, zk_c1_null, zk_c1_rf, zk_psh_some, zk_psh_none, zk_nok_int, zk_nok_bool0, zk_nok_bool1, zk_nok_b, zk_fok_0, zk_fok_1, zk_fok_2, zk_fok_n, zk_fok_rf, zb_f, zb_p, zb_i, zb_a, zb_s, zk_nth_0, zk_nth_s, zk_fld_o, zk_put_o, zk_rv_eq, zk_ri_eq, zk_is_o, List.mem_cons, List.not_mem_nil, or_false, false_or, or_true, true_or, and_true, true_and, not_false_iff, not_true_eq_false, true_implies, false_implies, imp_self, implies_true, forall_const, zk_lit, zk_uj_ap, zk_un_ap, zk_un_un, zk_uj_uj, Nat.reduceEqDiff, eq_self, zk_bq, Bool.true_or, Bool.false_or, Nat.le_refl, Nat.zero_add, Nat.add_zero, Nat.reduceAdd, Nat.reduceLeDiff, Nat.le_zero_eq, and_self, and_false, false_and, ite_true, ite_false, Nat.zero_le, List.length_cons, List.length_nil, Option.some.injEq, forall_eq', reduceCtorEq, ea, spe_X11_isIn, q, zk_b0, Bool.true_eq_false, e0, n_add, i0, l0, hat]
    exact h3 _ _ _ _ qe (fun _ _ => rfl) (Nat.le_refl _)
theorem ct_X11_ofFault {l : Launch} (hl : l.stackTraces = false) (E : zk_E) : zk_C l E (zk_VT E) yX11_ofFault cX11_ofFault 3 (some (.int)) rm_X11_ofFault (sp_X11_ofFault E) := by
  refine zk_meth (M := M_X11_ofFault) (C := C_X11_ofFault E) hl (by decide +kernel) rfl (fun _ _ => rfl) (zk_VT_ok E) MO_X11_ofFault TO_X11_ofFault THo_X11_ofFault ?_ (vc_X11_ofFault E)
  exact fun p e s m args below meth c X pc n mc ms sp2 h => by
    have h2 := zk_lka_mem h
    simp only [List.mem_cons, List.not_mem_nil, or_false, Prod.mk.injEq] at h2
    rcases h2 with ⟨rfl, rfl, rfl, rfl, rfl⟩ | ⟨rfl, rfl, rfl, rfl, rfl⟩ | ⟨rfl, rfl, rfl, rfl, rfl⟩
    · exact zk_coV (idx := 291) X (ct_X11_faultsNow hl E) (List.forall_mem_cons.mpr ⟨zk_wi 1369 (by decide +kernel) rfl, List.forall_mem_cons.mpr ⟨zk_wi 1371 (by decide +kernel) rfl, List.forall_mem_cons.mpr ⟨zk_wp 48 (by decide +kernel) rfl, List.forall_mem_cons.mpr ⟨zk_wi 6 (by decide +kernel) rfl, List.forall_mem_cons.mpr ⟨zk_wi 1372 (by decide +kernel) rfl, fun _ h => absurd h List.not_mem_nil⟩⟩⟩⟩⟩) (fun ci h => by
      have h := Nat.eq_of_beq_eq_true h
      subst h
      exact ⟨_, _, rfl⟩) (by decide +kernel) ⟨by decide, by decide, by decide +kernel⟩ ⟨by decide, by decide⟩
    · exact zk_coS (idx := 111) X (ct_X11_isIn hl E) (List.forall_mem_cons.mpr ⟨zk_wi 1105 (by decide +kernel) rfl, List.forall_mem_cons.mpr ⟨zk_wi 1106 (by decide +kernel) rfl, List.forall_mem_cons.mpr ⟨zk_wi 6 (by decide +kernel) rfl, List.forall_mem_cons.mpr ⟨zk_wi 1107 (by decide +kernel) rfl, fun _ h => absurd h List.not_mem_nil⟩⟩⟩⟩) (by decide +kernel) ⟨by decide, by decide, by decide +kernel⟩ ⟨by decide, by decide⟩
    · exact zk_coV (idx := 130) X (ct_X11_no hl E) (List.forall_mem_cons.mpr ⟨zk_wi 1108 (by decide +kernel) rfl, List.forall_mem_cons.mpr ⟨zk_wi 1110 (by decide +kernel) rfl, List.forall_mem_cons.mpr ⟨zk_wp 11 (by decide +kernel) rfl, List.forall_mem_cons.mpr ⟨zk_wi 6 (by decide +kernel) rfl, List.forall_mem_cons.mpr ⟨zk_wi 1111 (by decide +kernel) rfl, fun _ h => absurd h List.not_mem_nil⟩⟩⟩⟩⟩) (fun ci h => by
      have h := Nat.eq_of_beq_eq_true h
      subst h
      exact ⟨_, _, rfl⟩) (by decide +kernel) ⟨by decide, by decide, by decide +kernel⟩ ⟨by decide, by decide⟩
def sp_X11_ruleOf (E : zk_E) : zk_Sp zk_S := fun av σ sz P PX => match av with
  | [.ref a, .int i] => a = zk_ad E 22 ∧ MI σ.1 σ.2.1 ∧ (m_isIn i 0 (nI (a_faults σ.1 σ.2.1) - 1) = false → ZQ σ sz 1 (some (.int 0)) P) ∧ (m_isIn i 0 (nI (a_faults σ.1 σ.2.1) - 1) = true → ZQ σ sz 0 (some (.int (a_fq σ.1 σ.2.1 i.toNatClampNeg 0))) P)
  | _ => False
theorem spe_X11_ruleOf (E : zk_E) (a : Nat) (i : Int32) (σ : zk_S) (sz : Nat) (P : zk_P zk_S) (PX : zk_X zk_S) : sp_X11_ruleOf E [.ref a, .int i] σ sz P PX = (a = zk_ad E 22 ∧ MI σ.1 σ.2.1 ∧ (m_isIn i 0 (nI (a_faults σ.1 σ.2.1) - 1) = false → ZQ σ sz 1 (some (.int 0)) P) ∧ (m_isIn i 0 (nI (a_faults σ.1 σ.2.1) - 1) = true → ZQ σ sz 0 (some (.int (a_fq σ.1 σ.2.1 i.toNatClampNeg 0))) P)) := propext Iff.rfl
def C_X11_ruleOf (E : zk_E) : zk_Cl zk_S := zk_lka [(3, 3, 0, 0, zk_rv (zk_VT E) (fun ci => Nat.beq ci 10) (sp_X11_ofFault E))]
theorem r_X11_ruleOf (E : zk_E) (P : zk_P zk_S) (PX : zk_X zk_S) (K : Nat → zk_L → List Value → zk_W zk_S → Prop) : (∀ (n : Nat) (l1 : Option Value) (y0 : Value) (r : List Value) (σ : zk_S) (sz k c : Nat), zk_run E (zk_VT E) M_X11_ruleOf (C_X11_ruleOf E) P PX K (n + 1) 0 [some y0, l1] r (σ, sz, k, c) = (zk_isr y0 ∧ zk_run E (zk_VT E) M_X11_ruleOf (C_X11_ruleOf E) P PX K n 1 [some y0, l1] (y0 :: r) (σ, sz, k, c))) ∧
  (∀ (n : Nat) (l0 : Option Value) (y1 : Int32) (r : List Value) (σ : zk_S) (sz k c : Nat), zk_run E (zk_VT E) M_X11_ruleOf (C_X11_ruleOf E) P PX K (n + 1) 1 [l0, some (.int y1)] r (σ, sz, k, c) = zk_run E (zk_VT E) M_X11_ruleOf (C_X11_ruleOf E) P PX K n 2 [l0, some (.int y1)] (.int y1 :: r) (σ, sz, k, c)) ∧
  (∀ (n : Nat) (l0 l1 : Option Value)  (r : List Value) (σ : zk_S) (sz k c : Nat), zk_run E (zk_VT E) M_X11_ruleOf (C_X11_ruleOf E) P PX K (n + 1) 2 [l0, l1] r (σ, sz, k, c) = zk_run E (zk_VT E) M_X11_ruleOf (C_X11_ruleOf E) P PX K n 3 [l0, l1] (.int (0) :: r) (σ, sz, k, c)) ∧
  (∀ (n : Nat) (l0 l1 : Option Value) (v0 : Value) (v1 : Value) (v2 : Value)  (σ : zk_S) (sz k c : Nat), zk_run E (zk_VT E) M_X11_ruleOf (C_X11_ruleOf E) P PX K (n + 1) 3 [l0, l1] [v0, v1, v2] (σ, sz, k, c) = (k + 0 ≤ 0 ∧ c + 0 ≤ 0 ∧ (zk_rv (zk_VT E) (fun ci => Nat.beq ci 10) (sp_X11_ofFault E)) [v2, v1, v0] σ sz (fun v s2 z2 => zk_run E (zk_VT E) M_X11_ruleOf (C_X11_ruleOf E) P PX K n 6 [l0, l1] (zk_psh v []) (s2, z2, k + 0, c + 0)) (fun X s2 z2 => PX X s2 z2))) ∧
  (∀ (n : Nat) (l0 l1 : Option Value) (x : Int32)  (σ : zk_S) (sz k c : Nat), zk_run E (zk_VT E) M_X11_ruleOf (C_X11_ruleOf E) P PX K (n + 1) 6 [l0, l1] [.int x] (σ, sz, k, c) = (zk_nok (some (.int)) x ∧ P (some (.int x)) σ sz ∧ k ≤ 0 ∧ c ≤ 0)) ∧
  (∀ (n : Nat) (l0 l1 : Option Value) (r : List Value) (w : zk_W zk_S), zk_go E (zk_VT E) M_X11_ruleOf (C_X11_ruleOf E) P PX K n 0 [l0, l1] r w = zk_run E (zk_VT E) M_X11_ruleOf (C_X11_ruleOf E) P PX K (n + 1) 0 [l0, l1] r w) := ⟨by intros; rfl, by intros; rfl, by intros; rfl, by intros; rfl, by intros; rfl, by intros; rfl⟩
theorem vc_X11_ruleOf (E : zk_E) : zk_VC E (zk_VT E) M_X11_ruleOf (C_X11_ruleOf E) 2 (sp_X11_ruleOf E) := by
  intro av σ sz P PX h
  obtain ⟨J, N, Q, O, U⟩ := σ
  unfold sp_X11_ruleOf at h
  split at h
  case h_2 => exact h.elim
  rename_i a0 i
  obtain ⟨rfl, h⟩ := h
  refine ⟨Nat.le_of_ble_eq_true rfl, fun G hG => ?_⟩
  change G 0 [some (.ref (zk_ad E 22)), some (.int i)] [] ((J, N, Q, O, U), sz, 0, 0)
  try dsimp only at h
  obtain ⟨hmi, h1, h2⟩ := h
  (refine hG 900 _ _ _ _ ?_; simp only [r_X11_ruleOf, zk_kl_none, zk_kl_int, zk_kl_ref, zk_kl_null, zk_kl_long, zk_kl_rf, zk_isr_ref, zk_isr_null, zk_isr_rf9, zk_c1_int, zk_c1_ref, zk_c1_null, zk_c1_rf, zk_psh_some, zk_psh_none, zk_nok_int, zk_nok_bool0, zk_nok_bool1, zk_nok_b, zk_fok_0, zk_fok_1, zk_fok_2, zk_fok_n, zk_fok_rf, zb_f, zb_p, zb_i, zb_a, zb_s, zk_nth_0, zk_nth_s, zk_fld_o, zk_put_o, zk_rv_eq, zk_ri_eq, zk_is_o, List.mem_cons, List.not_mem_nil, or_false, false_or, or_true, true_or, and_true, true_and, not_false_iff, not_true_eq_false, true_implies, false_implies, imp_self, implies_true, forall_const, zk_lit, zk_uj_ap, zk_un_ap, zk_un_un, zk_uj_uj, Nat.reduceEqDiff, eq_self, zk_bq, Bool.true_or, Bool.false_or, Nat.le_refl, Nat.zero_add, Nat.add_zero, Nat.reduceAdd, Nat.reduceLeDiff, Nat.le_zero_eq, and_self, and_false, false_and, ite_true, ite_false, Nat.zero_le, List.length_cons, List.length_nil, Option.some.injEq, forall_eq', reduceCtorEq, spe_X11_ofFault])
  refine ⟨hmi, ⟨0, by decide, rfl⟩, fun q J2 N2 O2 sz2 a b c => ?_, fun q J2 N2 O2 sz2 a b c => ?_⟩
  · simp only [r_X11_ruleOf, zk_kl_none, zk_kl_int, zk_kl_ref, zk_kl_null, zk_kl_long, zk_kl_rf, zk_isr_ref, zk_isr_null, zk_isr_rf9, zk_c1_int, zk_c1_ref, zk_c1_null, zk_c1_rf, zk_psh_some, zk_psh_none, zk_nok_int, zk_nok_bool0, zk_nok_bool1, zk_nok_b, zk_fok_0, zk_fok_1, zk_fok_2, zk_fok_n, zk_fok_rf, zb_f, zb_p, zb_i, zb_a, zb_s, zk_nth_0, zk_nth_s, zk_fld_o, zk_put_o, zk_rv_eq, zk_ri_eq, zk_is_o, List.mem_cons, List.not_mem_nil, or_false, false_or, or_true, true_or, and_true, true_and, not_false_iff, not_true_eq_false, true_implies, false_implies, imp_self, implies_true, forall_const, zk_lit, zk_uj_ap, zk_un_ap, zk_un_un, zk_uj_uj, Nat.reduceEqDiff, eq_self, zk_bq, Bool.true_or, Bool.false_or, Nat.le_refl, Nat.zero_add, Nat.add_zero, Nat.reduceAdd, Nat.reduceLeDiff, Nat.le_zero_eq, and_self, and_false, false_and, ite_true, ite_false, Nat.zero_le, List.length_cons, List.length_nil, Option.some.injEq, forall_eq', reduceCtorEq]
    exact h1 q J2 N2 O2 sz2 a b c
  · simp only [r_X11_ruleOf, zk_kl_none, zk_kl_int, zk_kl_ref, zk_kl_null, zk_kl_long, zk_kl_rf, zk_isr_ref, zk_isr_null, zk_isr_rf9, zk_c1_int, zk_c1_ref, zk_c1_null, zk_c1_rf, zk_psh_some, zk_psh_none, zk_nok_int, zk_nok_bool0, zk_nok_bool1, zk_nok_b, zk_fok_0, zk_fok_1, zk_fok_2, zk_fok_n, zk_fok_rf, zb_f, zb_p, zb_i, zb_a, zb_s, zk_nth_0, zk_nth_s, zk_fld_o, zk_put_o, zk_rv_eq, zk_ri_eq, zk_is_o, List.mem_cons, List.not_mem_nil, or_false, false_or, or_true, true_or, and_true, true_and, not_false_iff, not_true_eq_false, true_implies, false_implies, imp_self, implies_true, forall_const, zk_lit, zk_uj_ap, zk_un_ap, zk_un_un, zk_uj_uj, Nat.reduceEqDiff, eq_self, zk_bq, Bool.true_or, Bool.false_or, Nat.le_refl, Nat.zero_add, Nat.add_zero, Nat.reduceAdd, Nat.reduceLeDiff, Nat.le_zero_eq, and_self, and_false, false_and, ite_true, ite_false, Nat.zero_le, List.length_cons, List.length_nil, Option.some.injEq, forall_eq', reduceCtorEq]
    exact h2 q J2 N2 O2 sz2 a b c
theorem ct_X11_ruleOf {l : Launch} (hl : l.stackTraces = false) (E : zk_E) : zk_C l E (zk_VT E) yX11_ruleOf cX11_ruleOf 2 (some (.int)) rm_X11_ruleOf (sp_X11_ruleOf E) := by
  refine zk_meth (M := M_X11_ruleOf) (C := C_X11_ruleOf E) hl (by decide +kernel) rfl (fun _ _ => rfl) (zk_VT_ok E) MO_X11_ruleOf TO_X11_ruleOf THo_X11_ruleOf ?_ (vc_X11_ruleOf E)
  exact fun p e s m args below meth c X pc n mc ms sp2 h => by
    have h2 := zk_lka_mem h
    simp only [List.mem_cons, List.not_mem_nil, or_false, Prod.mk.injEq] at h2
    rcases h2 with ⟨rfl, rfl, rfl, rfl, rfl⟩
    exact zk_coV (idx := 294) X (ct_X11_ofFault hl E) (List.forall_mem_cons.mpr ⟨zk_wi 1397 (by decide +kernel) rfl, List.forall_mem_cons.mpr ⟨zk_wi 1399 (by decide +kernel) rfl, List.forall_mem_cons.mpr ⟨zk_wp 54 (by decide +kernel) rfl, List.forall_mem_cons.mpr ⟨zk_wi 6 (by decide +kernel) rfl, List.forall_mem_cons.mpr ⟨zk_wi 1400 (by decide +kernel) rfl, fun _ h => absurd h List.not_mem_nil⟩⟩⟩⟩⟩) (fun ci h => by
      have h := Nat.eq_of_beq_eq_true h
      subst h
      exact ⟨_, _, rfl⟩) (by decide +kernel) ⟨by decide, by decide, by decide +kernel⟩ ⟨by decide, by decide⟩
def sp_X11_whereOf (E : zk_E) : zk_Sp zk_S := fun av σ sz P PX => match av with
  | [.ref a, .int i] => a = zk_ad E 22 ∧ MI σ.1 σ.2.1 ∧ (m_isIn i 0 (nI (a_faults σ.1 σ.2.1) - 1) = false → ZQ σ sz 1 (some (.int 0)) P) ∧ (m_isIn i 0 (nI (a_faults σ.1 σ.2.1) - 1) = true → ZQ σ sz 0 (some (.int (a_fq σ.1 σ.2.1 i.toNatClampNeg 1))) P)
  | _ => False
theorem spe_X11_whereOf (E : zk_E) (a : Nat) (i : Int32) (σ : zk_S) (sz : Nat) (P : zk_P zk_S) (PX : zk_X zk_S) : sp_X11_whereOf E [.ref a, .int i] σ sz P PX = (a = zk_ad E 22 ∧ MI σ.1 σ.2.1 ∧ (m_isIn i 0 (nI (a_faults σ.1 σ.2.1) - 1) = false → ZQ σ sz 1 (some (.int 0)) P) ∧ (m_isIn i 0 (nI (a_faults σ.1 σ.2.1) - 1) = true → ZQ σ sz 0 (some (.int (a_fq σ.1 σ.2.1 i.toNatClampNeg 1))) P)) := propext Iff.rfl
def C_X11_whereOf (E : zk_E) : zk_Cl zk_S := zk_lka [(3, 3, 0, 0, zk_rv (zk_VT E) (fun ci => Nat.beq ci 10) (sp_X11_ofFault E))]
theorem r_X11_whereOf (E : zk_E) (P : zk_P zk_S) (PX : zk_X zk_S) (K : Nat → zk_L → List Value → zk_W zk_S → Prop) : (∀ (n : Nat) (l1 : Option Value) (y0 : Value) (r : List Value) (σ : zk_S) (sz k c : Nat), zk_run E (zk_VT E) M_X11_whereOf (C_X11_whereOf E) P PX K (n + 1) 0 [some y0, l1] r (σ, sz, k, c) = (zk_isr y0 ∧ zk_run E (zk_VT E) M_X11_whereOf (C_X11_whereOf E) P PX K n 1 [some y0, l1] (y0 :: r) (σ, sz, k, c))) ∧
  (∀ (n : Nat) (l0 : Option Value) (y1 : Int32) (r : List Value) (σ : zk_S) (sz k c : Nat), zk_run E (zk_VT E) M_X11_whereOf (C_X11_whereOf E) P PX K (n + 1) 1 [l0, some (.int y1)] r (σ, sz, k, c) = zk_run E (zk_VT E) M_X11_whereOf (C_X11_whereOf E) P PX K n 2 [l0, some (.int y1)] (.int y1 :: r) (σ, sz, k, c)) ∧
  (∀ (n : Nat) (l0 l1 : Option Value)  (r : List Value) (σ : zk_S) (sz k c : Nat), zk_run E (zk_VT E) M_X11_whereOf (C_X11_whereOf E) P PX K (n + 1) 2 [l0, l1] r (σ, sz, k, c) = zk_run E (zk_VT E) M_X11_whereOf (C_X11_whereOf E) P PX K n 3 [l0, l1] (.int (1) :: r) (σ, sz, k, c)) ∧
  (∀ (n : Nat) (l0 l1 : Option Value) (v0 : Value) (v1 : Value) (v2 : Value)  (σ : zk_S) (sz k c : Nat), zk_run E (zk_VT E) M_X11_whereOf (C_X11_whereOf E) P PX K (n + 1) 3 [l0, l1] [v0, v1, v2] (σ, sz, k, c) = (k + 0 ≤ 0 ∧ c + 0 ≤ 0 ∧ (zk_rv (zk_VT E) (fun ci => Nat.beq ci 10) (sp_X11_ofFault E)) [v2, v1, v0] σ sz (fun v s2 z2 => zk_run E (zk_VT E) M_X11_whereOf (C_X11_whereOf E) P PX K n 6 [l0, l1] (zk_psh v []) (s2, z2, k + 0, c + 0)) (fun X s2 z2 => PX X s2 z2))) ∧
  (∀ (n : Nat) (l0 l1 : Option Value) (x : Int32)  (σ : zk_S) (sz k c : Nat), zk_run E (zk_VT E) M_X11_whereOf (C_X11_whereOf E) P PX K (n + 1) 6 [l0, l1] [.int x] (σ, sz, k, c) = (zk_nok (some (.int)) x ∧ P (some (.int x)) σ sz ∧ k ≤ 0 ∧ c ≤ 0)) ∧
  (∀ (n : Nat) (l0 l1 : Option Value) (r : List Value) (w : zk_W zk_S), zk_go E (zk_VT E) M_X11_whereOf (C_X11_whereOf E) P PX K n 0 [l0, l1] r w = zk_run E (zk_VT E) M_X11_whereOf (C_X11_whereOf E) P PX K (n + 1) 0 [l0, l1] r w) := ⟨by intros; rfl, by intros; rfl, by intros; rfl, by intros; rfl, by intros; rfl, by intros; rfl⟩
theorem vc_X11_whereOf (E : zk_E) : zk_VC E (zk_VT E) M_X11_whereOf (C_X11_whereOf E) 2 (sp_X11_whereOf E) := by
  intro av σ sz P PX h
  obtain ⟨J, N, Q, O, U⟩ := σ
  unfold sp_X11_whereOf at h
  split at h
  case h_2 => exact h.elim
  rename_i a0 i
  obtain ⟨rfl, h⟩ := h
  refine ⟨Nat.le_of_ble_eq_true rfl, fun G hG => ?_⟩
  change G 0 [some (.ref (zk_ad E 22)), some (.int i)] [] ((J, N, Q, O, U), sz, 0, 0)
  try dsimp only at h
  obtain ⟨hmi, h1, h2⟩ := h
  (refine hG 900 _ _ _ _ ?_; simp only [r_X11_whereOf, zk_kl_none, zk_kl_int, zk_kl_ref, zk_kl_null, zk_kl_long, zk_kl_rf, zk_isr_ref, zk_isr_null, zk_isr_rf9, zk_c1_int, zk_c1_ref, zk_c1_null, zk_c1_rf, zk_psh_some, zk_psh_none, zk_nok_int, zk_nok_bool0, zk_nok_bool1, zk_nok_b, zk_fok_0, zk_fok_1, zk_fok_2, zk_fok_n, zk_fok_rf, zb_f, zb_p, zb_i, zb_a, zb_s, zk_nth_0, zk_nth_s, zk_fld_o, zk_put_o, zk_rv_eq, zk_ri_eq, zk_is_o, List.mem_cons, List.not_mem_nil, or_false, false_or, or_true, true_or, and_true, true_and, not_false_iff, not_true_eq_false, true_implies, false_implies, imp_self, implies_true, forall_const, zk_lit, zk_uj_ap, zk_un_ap, zk_un_un, zk_uj_uj, Nat.reduceEqDiff, eq_self, zk_bq, Bool.true_or, Bool.false_or, Nat.le_refl, Nat.zero_add, Nat.add_zero, Nat.reduceAdd, Nat.reduceLeDiff, Nat.le_zero_eq, and_self, and_false, false_and, ite_true, ite_false, Nat.zero_le, List.length_cons, List.length_nil, Option.some.injEq, forall_eq', reduceCtorEq, spe_X11_ofFault])
  refine ⟨hmi, ⟨1, by decide, rfl⟩, fun q J2 N2 O2 sz2 a b c => ?_, fun q J2 N2 O2 sz2 a b c => ?_⟩
  · simp only [r_X11_whereOf, zk_kl_none, zk_kl_int, zk_kl_ref, zk_kl_null, zk_kl_long, zk_kl_rf, zk_isr_ref, zk_isr_null, zk_isr_rf9, zk_c1_int, zk_c1_ref, zk_c1_null, zk_c1_rf, zk_psh_some, zk_psh_none, zk_nok_int, zk_nok_bool0, zk_nok_bool1, zk_nok_b, zk_fok_0, zk_fok_1, zk_fok_2, zk_fok_n, zk_fok_rf, zb_f, zb_p, zb_i, zb_a, zb_s, zk_nth_0, zk_nth_s, zk_fld_o, zk_put_o, zk_rv_eq, zk_ri_eq, zk_is_o, List.mem_cons, List.not_mem_nil, or_false, false_or, or_true, true_or, and_true, true_and, not_false_iff, not_true_eq_false, true_implies, false_implies, imp_self, implies_true, forall_const, zk_lit, zk_uj_ap, zk_un_ap, zk_un_un, zk_uj_uj, Nat.reduceEqDiff, eq_self, zk_bq, Bool.true_or, Bool.false_or, Nat.le_refl, Nat.zero_add, Nat.add_zero, Nat.reduceAdd, Nat.reduceLeDiff, Nat.le_zero_eq, and_self, and_false, false_and, ite_true, ite_false, Nat.zero_le, List.length_cons, List.length_nil, Option.some.injEq, forall_eq', reduceCtorEq]
    exact h1 q J2 N2 O2 sz2 a b c
  · simp only [r_X11_whereOf, zk_kl_none, zk_kl_int, zk_kl_ref, zk_kl_null, zk_kl_long, zk_kl_rf, zk_isr_ref, zk_isr_null, zk_isr_rf9, zk_c1_int, zk_c1_ref, zk_c1_null, zk_c1_rf, zk_psh_some, zk_psh_none, zk_nok_int, zk_nok_bool0, zk_nok_bool1, zk_nok_b, zk_fok_0, zk_fok_1, zk_fok_2, zk_fok_n, zk_fok_rf, zb_f, zb_p, zb_i, zb_a, zb_s, zk_nth_0, zk_nth_s, zk_fld_o, zk_put_o, zk_rv_eq, zk_ri_eq, zk_is_o, List.mem_cons, List.not_mem_nil, or_false, false_or, or_true, true_or, and_true, true_and, not_false_iff, not_true_eq_false, true_implies, false_implies, imp_self, implies_true, forall_const, zk_lit, zk_uj_ap, zk_un_ap, zk_un_un, zk_uj_uj, Nat.reduceEqDiff, eq_self, zk_bq, Bool.true_or, Bool.false_or, Nat.le_refl, Nat.zero_add, Nat.add_zero, Nat.reduceAdd, Nat.reduceLeDiff, Nat.le_zero_eq, and_self, and_false, false_and, ite_true, ite_false, Nat.zero_le, List.length_cons, List.length_nil, Option.some.injEq, forall_eq', reduceCtorEq]
    exact h2 q J2 N2 O2 sz2 a b c
theorem ct_X11_whereOf {l : Launch} (hl : l.stackTraces = false) (E : zk_E) : zk_C l E (zk_VT E) yX11_whereOf cX11_whereOf 2 (some (.int)) rm_X11_whereOf (sp_X11_whereOf E) := by
  refine zk_meth (M := M_X11_whereOf) (C := C_X11_whereOf E) hl (by decide +kernel) rfl (fun _ _ => rfl) (zk_VT_ok E) MO_X11_whereOf TO_X11_whereOf THo_X11_whereOf ?_ (vc_X11_whereOf E)
  exact fun p e s m args below meth c X pc n mc ms sp2 h => by
    have h2 := zk_lka_mem h
    simp only [List.mem_cons, List.not_mem_nil, or_false, Prod.mk.injEq] at h2
    rcases h2 with ⟨rfl, rfl, rfl, rfl, rfl⟩
    exact zk_coV (idx := 294) X (ct_X11_ofFault hl E) (List.forall_mem_cons.mpr ⟨zk_wi 1397 (by decide +kernel) rfl, List.forall_mem_cons.mpr ⟨zk_wi 1399 (by decide +kernel) rfl, List.forall_mem_cons.mpr ⟨zk_wp 54 (by decide +kernel) rfl, List.forall_mem_cons.mpr ⟨zk_wi 6 (by decide +kernel) rfl, List.forall_mem_cons.mpr ⟨zk_wi 1400 (by decide +kernel) rfl, fun _ h => absurd h List.not_mem_nil⟩⟩⟩⟩⟩) (fun ci h => by
      have h := Nat.eq_of_beq_eq_true h
      subst h
      exact ⟨_, _, rfl⟩) (by decide +kernel) ⟨by decide, by decide, by decide +kernel⟩ ⟨by decide, by decide⟩
def sp_X11_howMuch (E : zk_E) : zk_Sp zk_S := fun av σ sz P PX => match av with
  | [.ref a, .int i] => a = zk_ad E 22 ∧ MI σ.1 σ.2.1 ∧ (m_isIn i 0 (nI (a_faults σ.1 σ.2.1) - 1) = false → ZQ σ sz 1 (some (.int 0)) P) ∧ (m_isIn i 0 (nI (a_faults σ.1 σ.2.1) - 1) = true → ZQ σ sz 0 (some (.int (a_fq σ.1 σ.2.1 i.toNatClampNeg 2))) P)
  | _ => False
theorem spe_X11_howMuch (E : zk_E) (a : Nat) (i : Int32) (σ : zk_S) (sz : Nat) (P : zk_P zk_S) (PX : zk_X zk_S) : sp_X11_howMuch E [.ref a, .int i] σ sz P PX = (a = zk_ad E 22 ∧ MI σ.1 σ.2.1 ∧ (m_isIn i 0 (nI (a_faults σ.1 σ.2.1) - 1) = false → ZQ σ sz 1 (some (.int 0)) P) ∧ (m_isIn i 0 (nI (a_faults σ.1 σ.2.1) - 1) = true → ZQ σ sz 0 (some (.int (a_fq σ.1 σ.2.1 i.toNatClampNeg 2))) P)) := propext Iff.rfl
def C_X11_howMuch (E : zk_E) : zk_Cl zk_S := zk_lka [(3, 3, 0, 0, zk_rv (zk_VT E) (fun ci => Nat.beq ci 10) (sp_X11_ofFault E))]
theorem r_X11_howMuch (E : zk_E) (P : zk_P zk_S) (PX : zk_X zk_S) (K : Nat → zk_L → List Value → zk_W zk_S → Prop) : (∀ (n : Nat) (l1 : Option Value) (y0 : Value) (r : List Value) (σ : zk_S) (sz k c : Nat), zk_run E (zk_VT E) M_X11_howMuch (C_X11_howMuch E) P PX K (n + 1) 0 [some y0, l1] r (σ, sz, k, c) = (zk_isr y0 ∧ zk_run E (zk_VT E) M_X11_howMuch (C_X11_howMuch E) P PX K n 1 [some y0, l1] (y0 :: r) (σ, sz, k, c))) ∧
  (∀ (n : Nat) (l0 : Option Value) (y1 : Int32) (r : List Value) (σ : zk_S) (sz k c : Nat), zk_run E (zk_VT E) M_X11_howMuch (C_X11_howMuch E) P PX K (n + 1) 1 [l0, some (.int y1)] r (σ, sz, k, c) = zk_run E (zk_VT E) M_X11_howMuch (C_X11_howMuch E) P PX K n 2 [l0, some (.int y1)] (.int y1 :: r) (σ, sz, k, c)) ∧
  (∀ (n : Nat) (l0 l1 : Option Value)  (r : List Value) (σ : zk_S) (sz k c : Nat), zk_run E (zk_VT E) M_X11_howMuch (C_X11_howMuch E) P PX K (n + 1) 2 [l0, l1] r (σ, sz, k, c) = zk_run E (zk_VT E) M_X11_howMuch (C_X11_howMuch E) P PX K n 3 [l0, l1] (.int (2) :: r) (σ, sz, k, c)) ∧
  (∀ (n : Nat) (l0 l1 : Option Value) (v0 : Value) (v1 : Value) (v2 : Value)  (σ : zk_S) (sz k c : Nat), zk_run E (zk_VT E) M_X11_howMuch (C_X11_howMuch E) P PX K (n + 1) 3 [l0, l1] [v0, v1, v2] (σ, sz, k, c) = (k + 0 ≤ 0 ∧ c + 0 ≤ 0 ∧ (zk_rv (zk_VT E) (fun ci => Nat.beq ci 10) (sp_X11_ofFault E)) [v2, v1, v0] σ sz (fun v s2 z2 => zk_run E (zk_VT E) M_X11_howMuch (C_X11_howMuch E) P PX K n 6 [l0, l1] (zk_psh v []) (s2, z2, k + 0, c + 0)) (fun X s2 z2 => PX X s2 z2))) ∧
  (∀ (n : Nat) (l0 l1 : Option Value) (x : Int32)  (σ : zk_S) (sz k c : Nat), zk_run E (zk_VT E) M_X11_howMuch (C_X11_howMuch E) P PX K (n + 1) 6 [l0, l1] [.int x] (σ, sz, k, c) = (zk_nok (some (.int)) x ∧ P (some (.int x)) σ sz ∧ k ≤ 0 ∧ c ≤ 0)) ∧
  (∀ (n : Nat) (l0 l1 : Option Value) (r : List Value) (w : zk_W zk_S), zk_go E (zk_VT E) M_X11_howMuch (C_X11_howMuch E) P PX K n 0 [l0, l1] r w = zk_run E (zk_VT E) M_X11_howMuch (C_X11_howMuch E) P PX K (n + 1) 0 [l0, l1] r w) := ⟨by intros; rfl, by intros; rfl, by intros; rfl, by intros; rfl, by intros; rfl, by intros; rfl⟩
theorem vc_X11_howMuch (E : zk_E) : zk_VC E (zk_VT E) M_X11_howMuch (C_X11_howMuch E) 2 (sp_X11_howMuch E) := by
  intro av σ sz P PX h
  obtain ⟨J, N, Q, O, U⟩ := σ
  unfold sp_X11_howMuch at h
  split at h
  case h_2 => exact h.elim
  rename_i a0 i
  obtain ⟨rfl, h⟩ := h
  refine ⟨Nat.le_of_ble_eq_true rfl, fun G hG => ?_⟩
  change G 0 [some (.ref (zk_ad E 22)), some (.int i)] [] ((J, N, Q, O, U), sz, 0, 0)
  try dsimp only at h
  obtain ⟨hmi, h1, h2⟩ := h
  (refine hG 900 _ _ _ _ ?_; simp only [r_X11_howMuch, zk_kl_none, zk_kl_int, zk_kl_ref, zk_kl_null, zk_kl_long, zk_kl_rf, zk_isr_ref, zk_isr_null, zk_isr_rf9, zk_c1_int, zk_c1_ref, zk_c1_null, zk_c1_rf, zk_psh_some, zk_psh_none, zk_nok_int, zk_nok_bool0, zk_nok_bool1, zk_nok_b, zk_fok_0, zk_fok_1, zk_fok_2, zk_fok_n, zk_fok_rf, zb_f, zb_p, zb_i, zb_a, zb_s, zk_nth_0, zk_nth_s, zk_fld_o, zk_put_o, zk_rv_eq, zk_ri_eq, zk_is_o, List.mem_cons, List.not_mem_nil, or_false, false_or, or_true, true_or, and_true, true_and, not_false_iff, not_true_eq_false, true_implies, false_implies, imp_self, implies_true, forall_const, zk_lit, zk_uj_ap, zk_un_ap, zk_un_un, zk_uj_uj, Nat.reduceEqDiff, eq_self, zk_bq, Bool.true_or, Bool.false_or, Nat.le_refl, Nat.zero_add, Nat.add_zero, Nat.reduceAdd, Nat.reduceLeDiff, Nat.le_zero_eq, and_self, and_false, false_and, ite_true, ite_false, Nat.zero_le, List.length_cons, List.length_nil, Option.some.injEq, forall_eq', reduceCtorEq, spe_X11_ofFault])
  refine ⟨hmi, ⟨2, by decide, rfl⟩, fun q J2 N2 O2 sz2 a b c => ?_, fun q J2 N2 O2 sz2 a b c => ?_⟩
  · simp only [r_X11_howMuch, zk_kl_none, zk_kl_int, zk_kl_ref, zk_kl_null, zk_kl_long, zk_kl_rf, zk_isr_ref, zk_isr_null, zk_isr_rf9, zk_c1_int, zk_c1_ref, zk_c1_null, zk_c1_rf, zk_psh_some, zk_psh_none, zk_nok_int, zk_nok_bool0, zk_nok_bool1, zk_nok_b, zk_fok_0, zk_fok_1, zk_fok_2, zk_fok_n, zk_fok_rf, zb_f, zb_p, zb_i, zb_a, zb_s, zk_nth_0, zk_nth_s, zk_fld_o, zk_put_o, zk_rv_eq, zk_ri_eq, zk_is_o, List.mem_cons, List.not_mem_nil, or_false, false_or, or_true, true_or, and_true, true_and, not_false_iff, not_true_eq_false, true_implies, false_implies, imp_self, implies_true, forall_const, zk_lit, zk_uj_ap, zk_un_ap, zk_un_un, zk_uj_uj, Nat.reduceEqDiff, eq_self, zk_bq, Bool.true_or, Bool.false_or, Nat.le_refl, Nat.zero_add, Nat.add_zero, Nat.reduceAdd, Nat.reduceLeDiff, Nat.le_zero_eq, and_self, and_false, false_and, ite_true, ite_false, Nat.zero_le, List.length_cons, List.length_nil, Option.some.injEq, forall_eq', reduceCtorEq]
    exact h1 q J2 N2 O2 sz2 a b c
  · simp only [r_X11_howMuch, zk_kl_none, zk_kl_int, zk_kl_ref, zk_kl_null, zk_kl_long, zk_kl_rf, zk_isr_ref, zk_isr_null, zk_isr_rf9, zk_c1_int, zk_c1_ref, zk_c1_null, zk_c1_rf, zk_psh_some, zk_psh_none, zk_nok_int, zk_nok_bool0, zk_nok_bool1, zk_nok_b, zk_fok_0, zk_fok_1, zk_fok_2, zk_fok_n, zk_fok_rf, zb_f, zb_p, zb_i, zb_a, zb_s, zk_nth_0, zk_nth_s, zk_fld_o, zk_put_o, zk_rv_eq, zk_ri_eq, zk_is_o, List.mem_cons, List.not_mem_nil, or_false, false_or, or_true, true_or, and_true, true_and, not_false_iff, not_true_eq_false, true_implies, false_implies, imp_self, implies_true, forall_const, zk_lit, zk_uj_ap, zk_un_ap, zk_un_un, zk_uj_uj, Nat.reduceEqDiff, eq_self, zk_bq, Bool.true_or, Bool.false_or, Nat.le_refl, Nat.zero_add, Nat.add_zero, Nat.reduceAdd, Nat.reduceLeDiff, Nat.le_zero_eq, and_self, and_false, false_and, ite_true, ite_false, Nat.zero_le, List.length_cons, List.length_nil, Option.some.injEq, forall_eq', reduceCtorEq]
    exact h2 q J2 N2 O2 sz2 a b c
theorem ct_X11_howMuch {l : Launch} (hl : l.stackTraces = false) (E : zk_E) : zk_C l E (zk_VT E) yX11_howMuch cX11_howMuch 2 (some (.int)) rm_X11_howMuch (sp_X11_howMuch E) := by
  refine zk_meth (M := M_X11_howMuch) (C := C_X11_howMuch E) hl (by decide +kernel) rfl (fun _ _ => rfl) (zk_VT_ok E) MO_X11_howMuch TO_X11_howMuch THo_X11_howMuch ?_ (vc_X11_howMuch E)
  exact fun p e s m args below meth c X pc n mc ms sp2 h => by
    have h2 := zk_lka_mem h
    simp only [List.mem_cons, List.not_mem_nil, or_false, Prod.mk.injEq] at h2
    rcases h2 with ⟨rfl, rfl, rfl, rfl, rfl⟩
    exact zk_coV (idx := 294) X (ct_X11_ofFault hl E) (List.forall_mem_cons.mpr ⟨zk_wi 1397 (by decide +kernel) rfl, List.forall_mem_cons.mpr ⟨zk_wi 1399 (by decide +kernel) rfl, List.forall_mem_cons.mpr ⟨zk_wp 54 (by decide +kernel) rfl, List.forall_mem_cons.mpr ⟨zk_wi 6 (by decide +kernel) rfl, List.forall_mem_cons.mpr ⟨zk_wi 1400 (by decide +kernel) rfl, fun _ h => absurd h List.not_mem_nil⟩⟩⟩⟩⟩) (fun ci h => by
      have h := Nat.eq_of_beq_eq_true h
      subst h
      exact ⟨_, _, rfl⟩) (by decide +kernel) ⟨by decide, by decide, by decide +kernel⟩ ⟨by decide, by decide⟩
def a_brk (J N : Nat → Nat → Int32) (rule : Int32) : Nat := (a_fl J N 10).countP (fun p => decide (p.1 = rule))
theorem ES.brk {J J2 N N2 : Nat → Nat → Int32} (h : ES J J2 N N2) : a_brk J2 N2 = a_brk J N := by funext r; unfold a_brk; rw [h.fl]
def sp_X11_broken (E : zk_E) : zk_Sp zk_S := fun av σ sz P PX => match av with
  | [.ref a, .int r] => a = zk_ad E 22 ∧ MI σ.1 σ.2.1 ∧ (m_isIn r 0 9 = false → ZQ σ sz 1 (some (.int 0)) P) ∧ (m_isIn r 0 9 = true → ZQ σ sz 0 (some (.int (nI (a_brk σ.1 σ.2.1 r)))) P)
  | _ => False
theorem spe_X11_broken (E : zk_E) (a : Nat) (r : Int32) (σ : zk_S) (sz : Nat) (P : zk_P zk_S) (PX : zk_X zk_S) : sp_X11_broken E [.ref a, .int r] σ sz P PX = (a = zk_ad E 22 ∧ MI σ.1 σ.2.1 ∧ (m_isIn r 0 9 = false → ZQ σ sz 1 (some (.int 0)) P) ∧ (m_isIn r 0 9 = true → ZQ σ sz 0 (some (.int (nI (a_brk σ.1 σ.2.1 r)))) P)) := propext Iff.rfl
def C_X11_broken (E : zk_E) : zk_Cl zk_S := zk_lka [(9, 3, 0, 0, sp_X11_isIn E), (17, 2, 0, 0, zk_rv (zk_VT E) (fun ci => Nat.beq ci 10) (sp_X11_no E)), (22, 1, 0, 0, zk_rv (zk_VT E) (fun ci => Nat.beq ci 10) (sp_X11_tellFaults E))]
theorem r_X11_broken (E : zk_E) (P : zk_P zk_S) (PX : zk_X zk_S) (K : Nat → zk_L → List Value → zk_W zk_S → Prop) : (∀ (n : Nat) (l1 l2 l3 : Option Value) (y0 : Value) (r : List Value) (σ : zk_S) (sz k c : Nat), zk_run E (zk_VT E) M_X11_broken (C_X11_broken E) P PX K (n + 1) 0 [some y0, l1, l2, l3] r (σ, sz, k, c) = (zk_isr y0 ∧ zk_run E (zk_VT E) M_X11_broken (C_X11_broken E) P PX K n 1 [some y0, l1, l2, l3] (y0 :: r) (σ, sz, k, c))) ∧
  (∀ (n : Nat) (l0 l1 l2 l3 : Option Value)  (r : List Value) (σ : zk_S) (sz k c : Nat), zk_run E (zk_VT E) M_X11_broken (C_X11_broken E) P PX K (n + 1) 1 [l0, l1, l2, l3] r (σ, sz, k, c) = zk_run E (zk_VT E) M_X11_broken (C_X11_broken E) P PX K n 2 [l0, l1, l2, l3] (.int (0) :: r) (σ, sz, k, c)) ∧
  (∀ (n : Nat) (l0 l1 l2 l3 : Option Value) (a : Nat) (v : Value) (r : List Value) (σ : zk_S) (sz k c : Nat), zk_run E (zk_VT E) M_X11_broken (C_X11_broken E) P PX K (n + 1) 2 [l0, l1, l2, l3] (v :: .ref a :: r) (σ, sz, k, c) = zk_put (zk_view E σ a) [10] 0 0 v (zk_pfok E σ a 0 v ∧ zk_run E (zk_VT E) M_X11_broken (C_X11_broken E) P PX K n 5 [l0, l1, l2, l3] r (zk_pf E σ a 0 v, sz, k, c))) ∧
  (∀ (n : Nat) (l0 l2 l3 : Option Value) (y1 : Int32) (r : List Value) (σ : zk_S) (sz k c : Nat), zk_run E (zk_VT E) M_X11_broken (C_X11_broken E) P PX K (n + 1) 5 [l0, some (.int y1), l2, l3] r (σ, sz, k, c) = zk_run E (zk_VT E) M_X11_broken (C_X11_broken E) P PX K n 6 [l0, some (.int y1), l2, l3] (.int y1 :: r) (σ, sz, k, c)) ∧
  (∀ (n : Nat) (l0 l1 l2 l3 : Option Value)  (r : List Value) (σ : zk_S) (sz k c : Nat), zk_run E (zk_VT E) M_X11_broken (C_X11_broken E) P PX K (n + 1) 6 [l0, l1, l2, l3] r (σ, sz, k, c) = zk_run E (zk_VT E) M_X11_broken (C_X11_broken E) P PX K n 7 [l0, l1, l2, l3] (.int (0) :: r) (σ, sz, k, c)) ∧
  (∀ (n : Nat) (l0 l1 l2 l3 : Option Value)  (r : List Value) (σ : zk_S) (sz k c : Nat), zk_run E (zk_VT E) M_X11_broken (C_X11_broken E) P PX K (n + 1) 7 [l0, l1, l2, l3] r (σ, sz, k, c) = zk_run E (zk_VT E) M_X11_broken (C_X11_broken E) P PX K n 9 [l0, l1, l2, l3] (.int (9) :: r) (σ, sz, k, c)) ∧
  (∀ (n : Nat) (l0 l1 l2 l3 : Option Value) (v0 : Value) (v1 : Value) (v2 : Value)  (σ : zk_S) (sz k c : Nat), zk_run E (zk_VT E) M_X11_broken (C_X11_broken E) P PX K (n + 1) 9 [l0, l1, l2, l3] [v0, v1, v2] (σ, sz, k, c) = (k + 0 ≤ 0 ∧ c + 0 ≤ 0 ∧ (sp_X11_isIn E) [v2, v1, v0] σ sz (fun v s2 z2 => zk_run E (zk_VT E) M_X11_broken (C_X11_broken E) P PX K n 12 [l0, l1, l2, l3] (zk_psh v []) (s2, z2, k + 0, c + 0)) (fun X s2 z2 => PX X s2 z2))) ∧
  (∀ (n : Nat) (l0 l1 l2 l3 : Option Value) (x : Int32) (r : List Value) (σ : zk_S) (sz k c : Nat), zk_run E (zk_VT E) M_X11_broken (C_X11_broken E) P PX K (n + 1) 12 [l0, l1, l2, l3] (.int x :: r) (σ, sz, k, c) = ((¬ x = 0 → zk_run E (zk_VT E) M_X11_broken (C_X11_broken E) P PX K n 21 [l0, l1, l2, l3] r (σ, sz, k, c)) ∧ (¬ (¬ x = 0) → zk_run E (zk_VT E) M_X11_broken (C_X11_broken E) P PX K n 15 [l0, l1, l2, l3] r (σ, sz, k, c)))) ∧
  (∀ (n : Nat) (l1 l2 l3 : Option Value) (y0 : Value) (r : List Value) (σ : zk_S) (sz k c : Nat), zk_run E (zk_VT E) M_X11_broken (C_X11_broken E) P PX K (n + 1) 15 [some y0, l1, l2, l3] r (σ, sz, k, c) = (zk_isr y0 ∧ zk_run E (zk_VT E) M_X11_broken (C_X11_broken E) P PX K n 16 [some y0, l1, l2, l3] (y0 :: r) (σ, sz, k, c))) ∧
  (∀ (n : Nat) (l0 l1 l2 l3 : Option Value)  (r : List Value) (σ : zk_S) (sz k c : Nat), zk_run E (zk_VT E) M_X11_broken (C_X11_broken E) P PX K (n + 1) 16 [l0, l1, l2, l3] r (σ, sz, k, c) = zk_run E (zk_VT E) M_X11_broken (C_X11_broken E) P PX K n 17 [l0, l1, l2, l3] (.int (1) :: r) (σ, sz, k, c)) ∧
  (∀ (n : Nat) (l0 l1 l2 l3 : Option Value) (v0 : Value) (v1 : Value)  (σ : zk_S) (sz k c : Nat), zk_run E (zk_VT E) M_X11_broken (C_X11_broken E) P PX K (n + 1) 17 [l0, l1, l2, l3] [v0, v1] (σ, sz, k, c) = (k + 0 ≤ 0 ∧ c + 0 ≤ 0 ∧ (zk_rv (zk_VT E) (fun ci => Nat.beq ci 10) (sp_X11_no E)) [v1, v0] σ sz (fun v s2 z2 => zk_run E (zk_VT E) M_X11_broken (C_X11_broken E) P PX K n 20 [l0, l1, l2, l3] (zk_psh v []) (s2, z2, k + 0, c + 0)) (fun X s2 z2 => PX X s2 z2))) ∧
  (∀ (n : Nat) (l0 l1 l2 l3 : Option Value) (x : Int32)  (σ : zk_S) (sz k c : Nat), zk_run E (zk_VT E) M_X11_broken (C_X11_broken E) P PX K (n + 1) 20 [l0, l1, l2, l3] [.int x] (σ, sz, k, c) = (zk_nok (some (.int)) x ∧ P (some (.int x)) σ sz ∧ k ≤ 0 ∧ c ≤ 0)) ∧
  (∀ (n : Nat) (l1 l2 l3 : Option Value) (y0 : Value) (r : List Value) (σ : zk_S) (sz k c : Nat), zk_run E (zk_VT E) M_X11_broken (C_X11_broken E) P PX K (n + 1) 21 [some y0, l1, l2, l3] r (σ, sz, k, c) = (zk_isr y0 ∧ zk_run E (zk_VT E) M_X11_broken (C_X11_broken E) P PX K n 22 [some y0, l1, l2, l3] (y0 :: r) (σ, sz, k, c))) ∧
  (∀ (n : Nat) (l0 l1 l2 l3 : Option Value) (v0 : Value)  (σ : zk_S) (sz k c : Nat), zk_run E (zk_VT E) M_X11_broken (C_X11_broken E) P PX K (n + 1) 22 [l0, l1, l2, l3] [v0] (σ, sz, k, c) = (k + 0 ≤ 0 ∧ c + 0 ≤ 0 ∧ (zk_rv (zk_VT E) (fun ci => Nat.beq ci 10) (sp_X11_tellFaults E)) [v0] σ sz (fun v s2 z2 => zk_run E (zk_VT E) M_X11_broken (C_X11_broken E) P PX K n 25 [l0, l1, l2, l3] (zk_psh v []) (s2, z2, k + 0, c + 0)) (fun X s2 z2 => PX X s2 z2))) ∧
  (∀ (n : Nat) (l0 l1 l2 l3 : Option Value)  (r : List Value) (σ : zk_S) (sz k c : Nat), zk_run E (zk_VT E) M_X11_broken (C_X11_broken E) P PX K (n + 1) 25 [l0, l1, l2, l3] r (σ, sz, k, c) = zk_run E (zk_VT E) M_X11_broken (C_X11_broken E) P PX K n 26 [l0, l1, l2, l3] (.int (0) :: r) (σ, sz, k, c)) ∧
  (∀ (n : Nat) (l0 l1 l2 l3 : Option Value) (x : Int32) (r : List Value) (σ : zk_S) (sz k c : Nat), zk_run E (zk_VT E) M_X11_broken (C_X11_broken E) P PX K (n + 1) 26 [l0, l1, l2, l3] (.int x :: r) (σ, sz, k, c) = zk_run E (zk_VT E) M_X11_broken (C_X11_broken E) P PX K n 27 [l0, zk_kl l1, some (.int x), l3] r (σ, sz, k, c)) ∧
  (∀ (n : Nat) (l0 l1 l2 l3 : Option Value)  (r : List Value) (σ : zk_S) (sz k c : Nat), zk_run E (zk_VT E) M_X11_broken (C_X11_broken E) P PX K (n + 1) 27 [l0, l1, l2, l3] r (σ, sz, k, c) = zk_run E (zk_VT E) M_X11_broken (C_X11_broken E) P PX K n 28 [l0, l1, l2, l3] (.int (0) :: r) (σ, sz, k, c)) ∧
  (∀ (n : Nat) (l0 l1 l2 l3 : Option Value) (x : Int32) (r : List Value) (σ : zk_S) (sz k c : Nat), zk_run E (zk_VT E) M_X11_broken (C_X11_broken E) P PX K (n + 1) 28 [l0, l1, l2, l3] (.int x :: r) (σ, sz, k, c) = zk_run E (zk_VT E) M_X11_broken (C_X11_broken E) P PX K n 29 [l0, l1, zk_kl l2, some (.int x)] r (σ, sz, k, c)) ∧
  (∀ (n : Nat) (l0 l1 l2 l3 : Option Value)  (r : List Value) (σ : zk_S) (sz k c : Nat), zk_run E (zk_VT E) M_X11_broken (C_X11_broken E) P PX K (n + 1) 29 [l0, l1, l2, l3] r (σ, sz, k, c) = K 29 [l0, l1, l2, l3] r (σ, sz, k, c)) ∧
  (∀ (n : Nat) (l1 l2 l3 : Option Value) (y0 : Value) (r : List Value) (σ : zk_S) (sz k c : Nat), zk_run E (zk_VT E) M_X11_broken (C_X11_broken E) P PX K (n + 1) 30 [some y0, l1, l2, l3] r (σ, sz, k, c) = (zk_isr y0 ∧ zk_run E (zk_VT E) M_X11_broken (C_X11_broken E) P PX K n 31 [some y0, l1, l2, l3] (y0 :: r) (σ, sz, k, c))) ∧
  (∀ (n : Nat) (l0 l1 l2 l3 : Option Value) (a : Nat) (r : List Value) (σ : zk_S) (sz k c : Nat), zk_run E (zk_VT E) M_X11_broken (C_X11_broken E) P PX K (n + 1) 31 [l0, l1, l2, l3] (.ref a :: r) (σ, sz, k, c) = zk_fld (zk_view E σ a) [10] 33 (fun v => zk_run E (zk_VT E) M_X11_broken (C_X11_broken E) P PX K n 34 [l0, l1, l2, l3] (v :: r) (σ, sz, k, c))) ∧
  (∀ (n : Nat) (l0 l1 l2 l3 : Option Value) (x y : Int32) (r : List Value) (σ : zk_S) (sz k c : Nat), zk_run E (zk_VT E) M_X11_broken (C_X11_broken E) P PX K (n + 1) 34 [l0, l1, l2, l3] (.int y :: .int x :: r) (σ, sz, k, c) = ((y ≤ x → zk_run E (zk_VT E) M_X11_broken (C_X11_broken E) P PX K n 63 [l0, l1, l2, l3] r (σ, sz, k, c)) ∧ (¬ (y ≤ x) → zk_run E (zk_VT E) M_X11_broken (C_X11_broken E) P PX K n 37 [l0, l1, l2, l3] r (σ, sz, k, c)))) ∧
  (∀ (n : Nat) (l0 l1 l3 : Option Value) (y2 : Int32) (r : List Value) (σ : zk_S) (sz k c : Nat), zk_run E (zk_VT E) M_X11_broken (C_X11_broken E) P PX K (n + 1) 37 [l0, l1, some (.int y2), l3] r (σ, sz, k, c) = zk_run E (zk_VT E) M_X11_broken (C_X11_broken E) P PX K n 38 [l0, l1, some (.int y2), l3] (.int y2 :: r) (σ, sz, k, c)) ∧
  (∀ (n : Nat) (l1 l2 l3 : Option Value) (y0 : Value) (r : List Value) (σ : zk_S) (sz k c : Nat), zk_run E (zk_VT E) M_X11_broken (C_X11_broken E) P PX K (n + 1) 38 [some y0, l1, l2, l3] r (σ, sz, k, c) = (zk_isr y0 ∧ zk_run E (zk_VT E) M_X11_broken (C_X11_broken E) P PX K n 39 [some y0, l1, l2, l3] (y0 :: r) (σ, sz, k, c))) ∧
  (∀ (n : Nat) (l0 l1 l2 l3 : Option Value) (a : Nat) (r : List Value) (σ : zk_S) (sz k c : Nat), zk_run E (zk_VT E) M_X11_broken (C_X11_broken E) P PX K (n + 1) 39 [l0, l1, l2, l3] (.ref a :: r) (σ, sz, k, c) = zk_fld (zk_view E σ a) [10] 34 (fun v => zk_run E (zk_VT E) M_X11_broken (C_X11_broken E) P PX K n 42 [l0, l1, l2, l3] (v :: r) (σ, sz, k, c))) ∧
  (∀ (n : Nat) (l0 l1 l2 l3 : Option Value)  (r : List Value) (σ : zk_S) (sz k c : Nat), zk_run E (zk_VT E) M_X11_broken (C_X11_broken E) P PX K (n + 1) 42 [l0, l1, l2, l3] r (σ, sz, k, c) = zk_run E (zk_VT E) M_X11_broken (C_X11_broken E) P PX K n 43 [l0, l1, l2, l3] (.int (3) :: r) (σ, sz, k, c)) ∧
  (∀ (n : Nat) (l0 l1 l2 : Option Value) (y3 : Int32) (r : List Value) (σ : zk_S) (sz k c : Nat), zk_run E (zk_VT E) M_X11_broken (C_X11_broken E) P PX K (n + 1) 43 [l0, l1, l2, some (.int y3)] r (σ, sz, k, c) = zk_run E (zk_VT E) M_X11_broken (C_X11_broken E) P PX K n 44 [l0, l1, l2, some (.int y3)] (.int y3 :: r) (σ, sz, k, c)) ∧
  (∀ (n : Nat) (l0 l1 l2 l3 : Option Value) (x y : Int32) (r : List Value) (σ : zk_S) (sz k c : Nat), zk_run E (zk_VT E) M_X11_broken (C_X11_broken E) P PX K (n + 1) 44 [l0, l1, l2, l3] (.int y :: .int x :: r) (σ, sz, k, c) = zk_run E (zk_VT E) M_X11_broken (C_X11_broken E) P PX K n 45 [l0, l1, l2, l3] (.int (x * y) :: r) (σ, sz, k, c)) ∧
  (∀ (n : Nat) (l0 l1 l2 l3 : Option Value) (a : Nat) (i : Int32) (r : List Value) (σ : zk_S) (sz k c : Nat), zk_run E (zk_VT E) M_X11_broken (C_X11_broken E) P PX K (n + 1) 45 [l0, l1, l2, l3] (.int i :: .ref a :: r) (σ, sz, k, c) = zk_ild (zk_view E σ a) (zk_ar E 0) i (fun x => zk_run E (zk_VT E) M_X11_broken (C_X11_broken E) P PX K n 46 [l0, l1, l2, l3] (.int x :: r) (σ, sz, k, c))) ∧
  (∀ (n : Nat) (l0 l2 l3 : Option Value) (y1 : Int32) (r : List Value) (σ : zk_S) (sz k c : Nat), zk_run E (zk_VT E) M_X11_broken (C_X11_broken E) P PX K (n + 1) 46 [l0, some (.int y1), l2, l3] r (σ, sz, k, c) = zk_run E (zk_VT E) M_X11_broken (C_X11_broken E) P PX K n 47 [l0, some (.int y1), l2, l3] (.int y1 :: r) (σ, sz, k, c)) ∧
  (∀ (n : Nat) (l0 l1 l2 l3 : Option Value) (x y : Int32) (r : List Value) (σ : zk_S) (sz k c : Nat), zk_run E (zk_VT E) M_X11_broken (C_X11_broken E) P PX K (n + 1) 47 [l0, l1, l2, l3] (.int y :: .int x :: r) (σ, sz, k, c) = ((¬ x = y → zk_run E (zk_VT E) M_X11_broken (C_X11_broken E) P PX K n 54 [l0, l1, l2, l3] r (σ, sz, k, c)) ∧ (¬ (¬ x = y) → zk_run E (zk_VT E) M_X11_broken (C_X11_broken E) P PX K n 50 [l0, l1, l2, l3] r (σ, sz, k, c)))) ∧
  (∀ (n : Nat) (l0 l1 l2 l3 : Option Value)  (r : List Value) (σ : zk_S) (sz k c : Nat), zk_run E (zk_VT E) M_X11_broken (C_X11_broken E) P PX K (n + 1) 50 [l0, l1, l2, l3] r (σ, sz, k, c) = zk_run E (zk_VT E) M_X11_broken (C_X11_broken E) P PX K n 51 [l0, l1, l2, l3] (.int (1) :: r) (σ, sz, k, c)) ∧
  (∀ (n : Nat) (l0 l1 l2 l3 : Option Value)  (r : List Value) (σ : zk_S) (sz k c : Nat), zk_run E (zk_VT E) M_X11_broken (C_X11_broken E) P PX K (n + 1) 51 [l0, l1, l2, l3] r (σ, sz, k, c) = zk_run E (zk_VT E) M_X11_broken (C_X11_broken E) P PX K n 55 [l0, l1, l2, l3] r (σ, sz, k, c)) ∧
  (∀ (n : Nat) (l0 l1 l2 l3 : Option Value)  (r : List Value) (σ : zk_S) (sz k c : Nat), zk_run E (zk_VT E) M_X11_broken (C_X11_broken E) P PX K (n + 1) 54 [l0, l1, l2, l3] r (σ, sz, k, c) = zk_run E (zk_VT E) M_X11_broken (C_X11_broken E) P PX K n 55 [l0, l1, l2, l3] (.int (0) :: r) (σ, sz, k, c)) ∧
  (∀ (n : Nat) (l0 l1 l2 l3 : Option Value) (x y : Int32) (r : List Value) (σ : zk_S) (sz k c : Nat), zk_run E (zk_VT E) M_X11_broken (C_X11_broken E) P PX K (n + 1) 55 [l0, l1, l2, l3] (.int y :: .int x :: r) (σ, sz, k, c) = zk_run E (zk_VT E) M_X11_broken (C_X11_broken E) P PX K n 56 [l0, l1, l2, l3] (.int (x + y) :: r) (σ, sz, k, c)) ∧
  (∀ (n : Nat) (l0 l1 l2 l3 : Option Value) (x : Int32) (r : List Value) (σ : zk_S) (sz k c : Nat), zk_run E (zk_VT E) M_X11_broken (C_X11_broken E) P PX K (n + 1) 56 [l0, l1, l2, l3] (.int x :: r) (σ, sz, k, c) = zk_run E (zk_VT E) M_X11_broken (C_X11_broken E) P PX K n 57 [l0, zk_kl l1, some (.int x), l3] r (σ, sz, k, c)) ∧
  (∀ (n : Nat) (l0 l1 l2 : Option Value) (y3 : Int32) (r : List Value) (σ : zk_S) (sz k c : Nat), zk_run E (zk_VT E) M_X11_broken (C_X11_broken E) P PX K (n + 1) 57 [l0, l1, l2, some (.int y3)] r (σ, sz, k, c) = zk_run E (zk_VT E) M_X11_broken (C_X11_broken E) P PX K n 60 [l0, l1, zk_kl l2, some (.int (y3 + 1))] r (σ, sz, k, c)) ∧
  (∀ (n : Nat) (l0 l1 l2 l3 : Option Value)  (r : List Value) (σ : zk_S) (sz k c : Nat), zk_run E (zk_VT E) M_X11_broken (C_X11_broken E) P PX K (n + 1) 60 [l0, l1, l2, l3] r (σ, sz, k, c) = zk_run E (zk_VT E) M_X11_broken (C_X11_broken E) P PX K n 29 [l0, l1, l2, l3] r (σ, sz, k, c)) ∧
  (∀ (n : Nat) (l0 l1 l3 : Option Value) (y2 : Int32) (r : List Value) (σ : zk_S) (sz k c : Nat), zk_run E (zk_VT E) M_X11_broken (C_X11_broken E) P PX K (n + 1) 63 [l0, l1, some (.int y2), l3] r (σ, sz, k, c) = zk_run E (zk_VT E) M_X11_broken (C_X11_broken E) P PX K n 64 [l0, l1, some (.int y2), l3] (.int y2 :: r) (σ, sz, k, c)) ∧
  (∀ (n : Nat) (l0 l1 l2 l3 : Option Value) (x : Int32)  (σ : zk_S) (sz k c : Nat), zk_run E (zk_VT E) M_X11_broken (C_X11_broken E) P PX K (n + 1) 64 [l0, l1, l2, l3] [.int x] (σ, sz, k, c) = (zk_nok (some (.int)) x ∧ P (some (.int x)) σ sz ∧ k ≤ 0 ∧ c ≤ 0)) := ⟨by intros; rfl, by intros; rfl, by intros; rfl, by intros; rfl, by intros; rfl, by intros; rfl, by intros; rfl, by intros; rfl, by intros; rfl, by intros; rfl, by intros; rfl, by intros; rfl, by intros; rfl, by intros; rfl, by intros; rfl, by intros; rfl, by intros; rfl, by intros; rfl, by intros; rfl, by intros; rfl, by intros; rfl, by intros; rfl, by intros; rfl, by intros; rfl, by intros; rfl, by intros; rfl, by intros; rfl, by intros; rfl, by intros; rfl, by intros; rfl, by intros; rfl, by intros; rfl, by intros; rfl, by intros; rfl, by intros; rfl, by intros; rfl, by intros; rfl, by intros; rfl, by intros; rfl, by intros; rfl⟩
theorem r_X11_broken_1 (E : zk_E) (P : zk_P zk_S) (PX : zk_X zk_S) (K : Nat → zk_L → List Value → zk_W zk_S → Prop) : (∀ (n : Nat) (l0 l1 l2 l3 : Option Value) (r : List Value) (w : zk_W zk_S), zk_go E (zk_VT E) M_X11_broken (C_X11_broken E) P PX K n 0 [l0, l1, l2, l3] r w = zk_run E (zk_VT E) M_X11_broken (C_X11_broken E) P PX K (n + 1) 0 [l0, l1, l2, l3] r w) ∧
  (∀ (n : Nat) (l0 l1 l2 : Option Value) (y3 : Int32) (r : List Value) (σ : zk_S) (sz k c : Nat), zk_go E (zk_VT E) M_X11_broken (C_X11_broken E) P PX K n 29 [l0, l1, l2, some (.int y3)] r (σ, sz, k, c) = zk_run E (zk_VT E) M_X11_broken (C_X11_broken E) P PX K n 30 [l0, l1, l2, some (.int y3)] (.int y3 :: r) (σ, sz, k, c)) := ⟨by intros; rfl, by intros; rfl⟩
theorem vc_X11_broken (E : zk_E) : zk_VC E (zk_VT E) M_X11_broken (C_X11_broken E) 4 (sp_X11_broken E) := by
  intro av σ sz P PX h
  obtain ⟨J, N, Q, O, U⟩ := σ
  unfold sp_X11_broken at h
  split at h
  case h_2 => exact h.elim
  rename_i a0 r
  obtain ⟨rfl, h⟩ := h
  refine ⟨Nat.le_of_ble_eq_true rfl, fun G hG => ?_⟩
  change G 0 [some (.ref (zk_ad E 22)), some (.int r), none, none] [] ((J, N, Q, O, U), sz, 0, 0)
  try dsimp only at h
  obtain ⟨hmi, h1, h2⟩ := h
  cases q : m_isIn r 0 9 with
  | false =>
    (refine hG 900 _ _ _ _ ?_; simp only [r_X11_broken, r_X11_broken_1, zk_kl_none, zk_kl_int, zk_kl_ref, zk_kl_null, zk_kl_long, zk_kl_rf, zk_isr_ref, zk_isr_null, zk_isr_rf9, zk_c1_int, zk_c1_ref, zk_c1_null, zk_c1_rf, zk_psh_some, zk_psh_none, zk_nok_int, zk_nok_bool0, zk_nok_bool1, zk_nok_b, zk_fok_0, zk_fok_1, zk_fok_2, zk_fok_n, zk_fok_rf, zb_f, zb_p, zb_i, zb_a, zb_s, zk_nth_0, zk_nth_s, zk_fld_o, zk_put_o, zk_rv_eq, zk_ri_eq, zk_is_o, List.mem_cons, List.not_mem_nil, or_false, false_or, or_true, true_or, and_true, true_and, not_false_iff, not_true_eq_false, true_implies, false_implies, imp_self, implies_true, forall_const, zk_lit, zk_uj_ap, zk_un_ap, zk_un_un, zk_uj_uj, Nat.reduceEqDiff, eq_self, zk_bq, Bool.true_or, Bool.false_or, Nat.le_refl, Nat.zero_add, Nat.add_zero, Nat.reduceAdd, Nat.reduceLeDiff, Nat.le_zero_eq, and_self, and_false, false_and, ite_true, ite_false, Nat.zero_le, List.length_cons, List.length_nil, Option.some.injEq, forall_eq', reduceCtorEq, spe_X11_isIn, q, zk_b0, spe_X11_no])
    exact h1 q _ _ _ _ (QE.thr J N 1) (fun _ _ => rfl) (Nat.le_refl _)
  | true =>
    have h3 := h2 q
    have hle := a_faults_le J N
    (refine hG 900 _ _ _ _ ?_; simp only [r_X11_broken, r_X11_broken_1, zk_kl_none, zk_kl_int, zk_kl_ref, zk_kl_null, zk_kl_long, zk_kl_rf, zk_isr_ref, zk_isr_null, zk_isr_rf9, zk_c1_int, zk_c1_ref, zk_c1_null, zk_c1_rf, zk_psh_some, zk_psh_none, zk_nok_int, zk_nok_bool0, zk_nok_bool1, zk_nok_b, zk_fok_0, zk_fok_1, zk_fok_2, zk_fok_n, zk_fok_rf, zb_f, zb_p, zb_i, zb_a, zb_s, zk_nth_0, zk_nth_s, zk_fld_o, zk_put_o, zk_rv_eq, zk_ri_eq, zk_is_o, List.mem_cons, List.not_mem_nil, or_false, false_or, or_true, true_or, and_true, true_and, not_false_iff, not_true_eq_false, true_implies, false_implies, imp_self, implies_true, forall_const, zk_lit, zk_uj_ap, zk_un_ap, zk_un_un, zk_uj_uj, Nat.reduceEqDiff, eq_self, zk_bq, Bool.true_or, Bool.false_or, Nat.le_refl, Nat.zero_add, Nat.add_zero, Nat.reduceAdd, Nat.reduceLeDiff, Nat.le_zero_eq, and_self, and_false, false_and, ite_true, ite_false, Nat.zero_le, List.length_cons, List.length_nil, Option.some.injEq, forall_eq', reduceCtorEq, spe_X11_isIn, q, zk_b0, Bool.true_eq_false, spe_X11_tellFaults])
    refine ⟨hmi.thr 0, fun J2 N2 hfo => ?_⟩
    have qe := hfo.qe (QE.thr J N 0)
    have hft := hfo.2.2.2.2
    have hn := hfo.2.2.2.1
    have es1 := (QE.thr J N 0).es
    rw [es1.fl] at hft hn
    have hn2 : J2 22 33 = nI (a_faults J N) := hn
    unfold a_brk at h3
    have h4 := h3 J2 N2 O sz qe (fun _ _ => rfl) (Nat.le_refl _)
    have loop : ∀ m k, k + m = a_faults J N → G 29 [some (.ref (zk_ad E 22)), some (.int r), some (.int (nI (((a_fl J N 10).take k).countP (fun p => decide (p.1 = r))))), some (.int (nI k))] [] ((J2, N2, Q, O, U), sz, 0, 0) := by
      intro m
      induction m with
      | zero =>
        intro k hk
        have c1 : nI (a_faults J N) ≤ nI k := nI_le (by omega) (by omega)
        rw [List.take_of_length_le (show (a_fl J N 10).length ≤ k by unfold a_faults at hk; omega)]
        (refine hG 900 _ _ _ _ ?_; simp only [r_X11_broken, r_X11_broken_1, zk_kl_none, zk_kl_int, zk_kl_ref, zk_kl_null, zk_kl_long, zk_kl_rf, zk_isr_ref, zk_isr_null, zk_isr_rf9, zk_c1_int, zk_c1_ref, zk_c1_null, zk_c1_rf, zk_psh_some, zk_psh_none, zk_nok_int, zk_nok_bool0, zk_nok_bool1, zk_nok_b, zk_fok_0, zk_fok_1, zk_fok_2, zk_fok_n, zk_fok_rf, zb_f, zb_p, zb_i, zb_a, zb_s, zk_nth_0, zk_nth_s, zk_fld_o, zk_put_o, zk_rv_eq, zk_ri_eq, zk_is_o, List.mem_cons, List.not_mem_nil, or_false, false_or, or_true, true_or, and_true, true_and, not_false_iff, not_true_eq_false, true_implies, false_implies, imp_self, implies_true, forall_const, zk_lit, zk_uj_ap, zk_un_ap, zk_un_un, zk_uj_uj, Nat.reduceEqDiff, eq_self, zk_bq, Bool.true_or, Bool.false_or, Nat.le_refl, Nat.zero_add, Nat.add_zero, Nat.reduceAdd, Nat.reduceLeDiff, Nat.le_zero_eq, and_self, and_false, false_and, ite_true, ite_false, Nat.zero_le, List.length_cons, List.length_nil, Option.some.injEq, forall_eq', reduceCtorEq, hn2, c1])
        exact h4
      | succ m ih =>
        intro k hk
        have c1 : ¬ nI (a_faults J N) ≤ nI k := nI_ge (by omega) (by omega)
        have ih2 := ih (k + 1) (by omega)
        have e0 : (3 : Int32) * nI k = nI (3 * k) := n_mul 3 k
        have i0 : vp_in (nI (3 * k)) 1200 := n_in (by omega) (by decide)
        have l0 : (nI (3 * k)).toNatClampNeg = 3 * k := n_cl (by omega)
        have hk2 : k < (a_fl J N 10).length := by unfold a_faults at hk; omega
        have hat := (hft k hk2).1
        rw [List.take_add_one, List.getElem?_eq_getElem hk2, Option.toList_some, List.countP_append, List.countP_cons, List.countP_nil, Nat.zero_add] at ih2
        generalize (a_fl J N 10)[k] = p at hat ih2
        by_cases c : p.1 = r
        · rw [if_pos (decide_eq_true c)] at ih2
          (refine hG 900 _ _ _ _ ?_; simp only [r_X11_broken, r_X11_broken_1, zk_kl_none, zk_kl_int, zk_kl_ref, zk_kl_null, zk_kl_long, zk_kl_rf, zk_isr_ref, zk_isr_null, zk_isr_rf9, zk_c1_int, zk_c1_ref, zk_c1_null, zk_c1_rf, zk_psh_some, zk_psh_none, zk_nok_int, zk_nok_bool0, zk_nok_bool1, zk_nok_b, zk_fok_0, zk_fok_1, zk_fok_2, zk_fok_n, zk_fok_rf, zb_f, zb_p, zb_i, zb_a, zb_s, zk_nth_0, zk_nth_s, zk_fld_o, zk_put_o, zk_rv_eq, zk_ri_eq, zk_is_o, List.mem_cons, List.not_mem_nil, or_false, false_or, or_true, true_or, and_true, true_and, not_false_iff, not_true_eq_false, true_implies, false_implies, imp_self, implies_true, forall_const, zk_lit, zk_uj_ap, zk_un_ap, zk_un_un, zk_uj_uj, Nat.reduceEqDiff, eq_self, zk_bq, Bool.true_or, Bool.false_or, Nat.le_refl, Nat.zero_add, Nat.add_zero, Nat.reduceAdd, Nat.reduceLeDiff, Nat.le_zero_eq, and_self, and_false, false_and, ite_true, ite_false, Nat.zero_le, List.length_cons, List.length_nil, Option.some.injEq, forall_eq', reduceCtorEq, hn2, c1, e0, i0, l0, hat, c, n_succ])
          exact ih2
        · rw [if_neg (by rw [decide_eq_false c]; decide)] at ih2
          (refine hG 900 _ _ _ _ ?_; simp only [r_X11_broken, r_X11_broken_1, zk_kl_none, zk_kl_int, zk_kl_ref, zk_kl_null, zk_kl_long, zk_kl_rf, zk_isr_ref, zk_isr_null, zk_isr_rf9, zk_c1_int, zk_c1_ref, zk_c1_null, zk_c1_rf, zk_psh_some, zk_psh_none, zk_nok_int, zk_nok_bool0, zk_nok_bool1, zk_nok_b, zk_fok_0, zk_fok_1, zk_fok_2, zk_fok_n, zk_fok_rf, zb_f, zb_p, zb_i, zb_a, zb_s, zk_nth_0, zk_nth_s, zk_fld_o, zk_put_o, zk_rv_eq, zk_ri_eq, zk_is_o, List.mem_cons, List.not_mem_nil, or_false, false_or, or_true, true_or, and_true, true_and, not_false_iff, not_true_eq_false, true_implies, false_implies, imp_self, implies_true, forall_const, zk_lit, zk_uj_ap, zk_un_ap, zk_un_un, zk_uj_uj, Nat.reduceEqDiff, eq_self, zk_bq, Bool.true_or, Bool.false_or, Nat.le_refl, Nat.zero_add, Nat.add_zero, Nat.reduceAdd, Nat.reduceLeDiff, Nat.le_zero_eq, and_self, and_false, false_and, ite_true, ite_false, Nat.zero_le, List.length_cons, List.length_nil, Option.some.injEq, forall_eq', reduceCtorEq, hn2, c1, e0, i0, l0, hat, c, n_succ, Int32.add_zero])
          exact ih2
    exact loop (a_faults J N) 0 (by omega)
theorem ct_X11_broken {l : Launch} (hl : l.stackTraces = false) (E : zk_E) : zk_C l E (zk_VT E) yX11_broken cX11_broken 4 (some (.int)) rm_X11_broken (sp_X11_broken E) := by
  refine zk_meth (M := M_X11_broken) (C := C_X11_broken E) hl (by decide +kernel) rfl (fun _ _ => rfl) (zk_VT_ok E) MO_X11_broken TO_X11_broken THo_X11_broken ?_ (vc_X11_broken E)
  exact fun p e s m args below meth c X pc n mc ms sp2 h => by
    have h2 := zk_lka_mem h
    simp only [List.mem_cons, List.not_mem_nil, or_false, Prod.mk.injEq] at h2
    rcases h2 with ⟨rfl, rfl, rfl, rfl, rfl⟩ | ⟨rfl, rfl, rfl, rfl, rfl⟩ | ⟨rfl, rfl, rfl, rfl, rfl⟩
    · exact zk_coS (idx := 111) X (ct_X11_isIn hl E) (List.forall_mem_cons.mpr ⟨zk_wi 1105 (by decide +kernel) rfl, List.forall_mem_cons.mpr ⟨zk_wi 1106 (by decide +kernel) rfl, List.forall_mem_cons.mpr ⟨zk_wi 6 (by decide +kernel) rfl, List.forall_mem_cons.mpr ⟨zk_wi 1107 (by decide +kernel) rfl, fun _ h => absurd h List.not_mem_nil⟩⟩⟩⟩) (by decide +kernel) ⟨by decide, by decide, by decide +kernel⟩ ⟨by decide, by decide⟩
    · exact zk_coV (idx := 130) X (ct_X11_no hl E) (List.forall_mem_cons.mpr ⟨zk_wi 1108 (by decide +kernel) rfl, List.forall_mem_cons.mpr ⟨zk_wi 1110 (by decide +kernel) rfl, List.forall_mem_cons.mpr ⟨zk_wp 11 (by decide +kernel) rfl, List.forall_mem_cons.mpr ⟨zk_wi 6 (by decide +kernel) rfl, List.forall_mem_cons.mpr ⟨zk_wi 1111 (by decide +kernel) rfl, fun _ h => absurd h List.not_mem_nil⟩⟩⟩⟩⟩) (fun ci h => by
      have h := Nat.eq_of_beq_eq_true h
      subst h
      exact ⟨_, _, rfl⟩) (by decide +kernel) ⟨by decide, by decide, by decide +kernel⟩ ⟨by decide, by decide⟩
    · exact zk_coV (idx := 288) X (ct_X11_tellFaults hl E) (List.forall_mem_cons.mpr ⟨zk_wi 1373 (by decide +kernel) rfl, List.forall_mem_cons.mpr ⟨zk_wi 1375 (by decide +kernel) rfl, List.forall_mem_cons.mpr ⟨zk_wp 49 (by decide +kernel) rfl, List.forall_mem_cons.mpr ⟨zk_wi 6 (by decide +kernel) rfl, List.forall_mem_cons.mpr ⟨zk_wi 1376 (by decide +kernel) rfl, fun _ h => absurd h List.not_mem_nil⟩⟩⟩⟩⟩) (fun ci h => by
      have h := Nat.eq_of_beq_eq_true h
      subst h
      exact ⟨_, _, rfl⟩) (by decide +kernel) ⟨by decide, by decide, by decide +kernel⟩ ⟨by decide, by decide⟩

